abbrev zb_XReader_readThings : ByteArray := prog_8_method_4_code
def zy_XReader_readThings : MethodName := ⟨"OrreryBox$Reader", "readThings", "(I)V"⟩
theorem zc_XReader_readThings : Cond.code zy_XReader_readThings zb_XReader_readThings 4 none ∈ gw := gw_t 1222 (by decide +kernel) rfl
theorem zq_XReader_readThings : zy_XReader_readThings.cls ≠ "java/lang/invoke/MethodHandle" ∧ zy_XReader_readThings.cls ≠ "java/lang/invoke/VarHandle" ∧ (parseMethodDescriptor zy_XReader_readThings.desc).map (fun d => d.parameters.length) = some 1 := by decide +kernel
theorem zd_XReader_readThings_0 : decode zb_XReader_readThings 0 = .ok (.aload_n 0, 1) := by decide +kernel
theorem zd_XReader_readThings_1 : decode zb_XReader_readThings 1 = .ok (.bipush 91, 2) := by decide +kernel
theorem zd_XReader_readThings_3 : decode zb_XReader_readThings 3 = .ok (.invokevirtual 45, 3) := by decide +kernel
theorem zd_XReader_readThings_6 : decode zb_XReader_readThings 6 = .ok (.aload_n 0, 1) := by decide +kernel
theorem zd_XReader_readThings_7 : decode zb_XReader_readThings 7 = .ok (.bipush 93, 2) := by decide +kernel
theorem zd_XReader_readThings_9 : decode zb_XReader_readThings 9 = .ok (.invokevirtual 49, 3) := by decide +kernel
theorem zd_XReader_readThings_12 : decode zb_XReader_readThings 12 = .ok (.ifCond .ne 7, 3) := by decide +kernel
theorem zd_XReader_readThings_15 : decode zb_XReader_readThings 15 = .ok (.iconst 1, 1) := by decide +kernel
theorem zd_XReader_readThings_16 : decode zb_XReader_readThings 16 = .ok (.goto 4, 3) := by decide +kernel
theorem zd_XReader_readThings_19 : decode zb_XReader_readThings 19 = .ok (.iconst 0, 1) := by decide +kernel
theorem zd_XReader_readThings_20 : decode zb_XReader_readThings 20 = .ok (.istore_n 2, 1) := by decide +kernel
theorem zd_XReader_readThings_21 : decode zb_XReader_readThings 21 = .ok (.iconst 0, 1) := by decide +kernel
theorem zd_XReader_readThings_22 : decode zb_XReader_readThings 22 = .ok (.istore_n 3, 1) := by decide +kernel
theorem zd_XReader_readThings_23 : decode zb_XReader_readThings 23 = .ok (.iload_n 3, 1) := by decide +kernel
theorem zd_XReader_readThings_24 : decode zb_XReader_readThings 24 = .ok (.getstatic 95, 3) := by decide +kernel
theorem zd_XReader_readThings_27 : decode zb_XReader_readThings 27 = .ok (.iload_n 1, 1) := by decide +kernel
theorem zd_XReader_readThings_28 : decode zb_XReader_readThings 28 = .ok (.iaload, 1) := by decide +kernel
theorem zd_XReader_readThings_29 : decode zb_XReader_readThings 29 = .ok (.if_icmp .ge 152, 3) := by decide +kernel
theorem zd_XReader_readThings_32 : decode zb_XReader_readThings 32 = .ok (.iload_n 2, 1) := by decide +kernel
theorem zd_XReader_readThings_33 : decode zb_XReader_readThings 33 = .ok (.ifCond .eq 148, 3) := by decide +kernel
theorem zd_XReader_readThings_36 : decode zb_XReader_readThings 36 = .ok (.aload_n 0, 1) := by decide +kernel
theorem zd_XReader_readThings_37 : decode zb_XReader_readThings 37 = .ok (.bipush 123, 2) := by decide +kernel
theorem zd_XReader_readThings_39 : decode zb_XReader_readThings 39 = .ok (.invokevirtual 45, 3) := by decide +kernel
theorem zd_XReader_readThings_42 : decode zb_XReader_readThings 42 = .ok (.iload_n 1, 1) := by decide +kernel
theorem zd_XReader_readThings_43 : decode zb_XReader_readThings 43 = .ok (.tableswitch 94 0 3 #[29, 45, 61, 77], 29) := by decide +kernel
theorem zd_XReader_readThings_72 : decode zb_XReader_readThings 72 = .ok (.aload_n 0, 1) := by decide +kernel
theorem zd_XReader_readThings_73 : decode zb_XReader_readThings 73 = .ok (.aload_n 0, 1) := by decide +kernel
theorem zd_XReader_readThings_74 : decode zb_XReader_readThings 74 = .ok (.getfield 23, 3) := by decide +kernel
theorem zd_XReader_readThings_77 : decode zb_XReader_readThings 77 = .ok (.getfield 98, 3) := by decide +kernel
theorem zd_XReader_readThings_80 : decode zb_XReader_readThings 80 = .ok (.iload_n 3, 1) := by decide +kernel
theorem zd_XReader_readThings_81 : decode zb_XReader_readThings 81 = .ok (.aaload, 1) := by decide +kernel
theorem zd_XReader_readThings_82 : decode zb_XReader_readThings 82 = .ok (.invokevirtual 101, 3) := by decide +kernel
theorem zd_XReader_readThings_85 : decode zb_XReader_readThings 85 = .ok (.goto 65, 3) := by decide +kernel
theorem zd_XReader_readThings_88 : decode zb_XReader_readThings 88 = .ok (.aload_n 0, 1) := by decide +kernel
theorem zd_XReader_readThings_89 : decode zb_XReader_readThings 89 = .ok (.aload_n 0, 1) := by decide +kernel
theorem zd_XReader_readThings_90 : decode zb_XReader_readThings 90 = .ok (.getfield 23, 3) := by decide +kernel
theorem zd_XReader_readThings_93 : decode zb_XReader_readThings 93 = .ok (.getfield 105, 3) := by decide +kernel
theorem zd_XReader_readThings_96 : decode zb_XReader_readThings 96 = .ok (.iload_n 3, 1) := by decide +kernel
theorem zd_XReader_readThings_97 : decode zb_XReader_readThings 97 = .ok (.aaload, 1) := by decide +kernel
theorem zd_XReader_readThings_98 : decode zb_XReader_readThings 98 = .ok (.invokevirtual 108, 3) := by decide +kernel
theorem zd_XReader_readThings_101 : decode zb_XReader_readThings 101 = .ok (.goto 49, 3) := by decide +kernel
theorem zd_XReader_readThings_104 : decode zb_XReader_readThings 104 = .ok (.aload_n 0, 1) := by decide +kernel
theorem zd_XReader_readThings_105 : decode zb_XReader_readThings 105 = .ok (.aload_n 0, 1) := by decide +kernel
theorem zd_XReader_readThings_106 : decode zb_XReader_readThings 106 = .ok (.getfield 23, 3) := by decide +kernel
theorem zd_XReader_readThings_109 : decode zb_XReader_readThings 109 = .ok (.getfield 112, 3) := by decide +kernel
theorem zd_XReader_readThings_112 : decode zb_XReader_readThings 112 = .ok (.iload_n 3, 1) := by decide +kernel
theorem zd_XReader_readThings_113 : decode zb_XReader_readThings 113 = .ok (.aaload, 1) := by decide +kernel
theorem zd_XReader_readThings_114 : decode zb_XReader_readThings 114 = .ok (.invokevirtual 115, 3) := by decide +kernel
theorem zd_XReader_readThings_117 : decode zb_XReader_readThings 117 = .ok (.goto 33, 3) := by decide +kernel
theorem zd_XReader_readThings_120 : decode zb_XReader_readThings 120 = .ok (.aload_n 0, 1) := by decide +kernel
theorem zd_XReader_readThings_121 : decode zb_XReader_readThings 121 = .ok (.aload_n 0, 1) := by decide +kernel
theorem zd_XReader_readThings_122 : decode zb_XReader_readThings 122 = .ok (.getfield 23, 3) := by decide +kernel
theorem zd_XReader_readThings_125 : decode zb_XReader_readThings 125 = .ok (.getfield 119, 3) := by decide +kernel
theorem zd_XReader_readThings_128 : decode zb_XReader_readThings 128 = .ok (.iload_n 3, 1) := by decide +kernel
theorem zd_XReader_readThings_129 : decode zb_XReader_readThings 129 = .ok (.aaload, 1) := by decide +kernel
theorem zd_XReader_readThings_130 : decode zb_XReader_readThings 130 = .ok (.iload_n 3, 1) := by decide +kernel
theorem zd_XReader_readThings_131 : decode zb_XReader_readThings 131 = .ok (.invokevirtual 122, 3) := by decide +kernel
theorem zd_XReader_readThings_134 : decode zb_XReader_readThings 134 = .ok (.goto 16, 3) := by decide +kernel
theorem zd_XReader_readThings_137 : decode zb_XReader_readThings 137 = .ok (.aload_n 0, 1) := by decide +kernel
theorem zd_XReader_readThings_138 : decode zb_XReader_readThings 138 = .ok (.aload_n 0, 1) := by decide +kernel
theorem zd_XReader_readThings_139 : decode zb_XReader_readThings 139 = .ok (.getfield 23, 3) := by decide +kernel
theorem zd_XReader_readThings_142 : decode zb_XReader_readThings 142 = .ok (.getfield 126, 3) := by decide +kernel
theorem zd_XReader_readThings_145 : decode zb_XReader_readThings 145 = .ok (.iload_n 3, 1) := by decide +kernel
theorem zd_XReader_readThings_146 : decode zb_XReader_readThings 146 = .ok (.aaload, 1) := by decide +kernel
theorem zd_XReader_readThings_147 : decode zb_XReader_readThings 147 = .ok (.invokevirtual 129, 3) := by decide +kernel
theorem zd_XReader_readThings_150 : decode zb_XReader_readThings 150 = .ok (.aload_n 0, 1) := by decide +kernel
theorem zd_XReader_readThings_151 : decode zb_XReader_readThings 151 = .ok (.bipush 125, 2) := by decide +kernel
theorem zd_XReader_readThings_153 : decode zb_XReader_readThings 153 = .ok (.invokevirtual 45, 3) := by decide +kernel
theorem zd_XReader_readThings_156 : decode zb_XReader_readThings 156 = .ok (.aload_n 0, 1) := by decide +kernel
theorem zd_XReader_readThings_157 : decode zb_XReader_readThings 157 = .ok (.getfield 23, 3) := by decide +kernel
theorem zd_XReader_readThings_160 : decode zb_XReader_readThings 160 = .ok (.getfield 133, 3) := by decide +kernel
theorem zd_XReader_readThings_163 : decode zb_XReader_readThings 163 = .ok (.iload_n 1, 1) := by decide +kernel
theorem zd_XReader_readThings_164 : decode zb_XReader_readThings 164 = .ok (.iload_n 3, 1) := by decide +kernel
theorem zd_XReader_readThings_165 : decode zb_XReader_readThings 165 = .ok (.iconst 1, 1) := by decide +kernel
theorem zd_XReader_readThings_166 : decode zb_XReader_readThings 166 = .ok (.iadd, 1) := by decide +kernel
theorem zd_XReader_readThings_167 : decode zb_XReader_readThings 167 = .ok (.iastore, 1) := by decide +kernel
theorem zd_XReader_readThings_168 : decode zb_XReader_readThings 168 = .ok (.aload_n 0, 1) := by decide +kernel
theorem zd_XReader_readThings_169 : decode zb_XReader_readThings 169 = .ok (.bipush 44, 2) := by decide +kernel
theorem zd_XReader_readThings_171 : decode zb_XReader_readThings 171 = .ok (.invokevirtual 74, 3) := by decide +kernel
theorem zd_XReader_readThings_174 : decode zb_XReader_readThings 174 = .ok (.istore_n 2, 1) := by decide +kernel
theorem zd_XReader_readThings_175 : decode zb_XReader_readThings 175 = .ok (.iinc 3 1, 3) := by decide +kernel
theorem zd_XReader_readThings_178 : decode zb_XReader_readThings 178 = .ok (.goto (-155), 3) := by decide +kernel
theorem zd_XReader_readThings_181 : decode zb_XReader_readThings 181 = .ok (.iload_n 2, 1) := by decide +kernel
theorem zd_XReader_readThings_182 : decode zb_XReader_readThings 182 = .ok (.ifCond .eq 25, 3) := by decide +kernel
theorem zd_XReader_readThings_185 : decode zb_XReader_readThings 185 = .ok (.aload_n 0, 1) := by decide +kernel
theorem zd_XReader_readThings_186 : decode zb_XReader_readThings 186 = .ok (.aload_n 0, 1) := by decide +kernel
theorem zd_XReader_readThings_187 : decode zb_XReader_readThings 187 = .ok (.bipush 123, 2) := by decide +kernel
theorem zd_XReader_readThings_189 : decode zb_XReader_readThings 189 = .ok (.invokevirtual 49, 3) := by decide +kernel
theorem zd_XReader_readThings_192 : decode zb_XReader_readThings 192 = .ok (.ifCond .eq 7, 3) := by decide +kernel
theorem zd_XReader_readThings_195 : decode zb_XReader_readThings 195 = .ok (.iconst 3, 1) := by decide +kernel
theorem zd_XReader_readThings_196 : decode zb_XReader_readThings 196 = .ok (.goto 4, 3) := by decide +kernel
theorem zd_XReader_readThings_199 : decode zb_XReader_readThings 199 = .ok (.iconst 1, 1) := by decide +kernel
theorem zd_XReader_readThings_200 : decode zb_XReader_readThings 200 = .ok (.aload_n 0, 1) := by decide +kernel
theorem zd_XReader_readThings_201 : decode zb_XReader_readThings 201 = .ok (.getfield 27, 3) := by decide +kernel
theorem zd_XReader_readThings_204 : decode zb_XReader_readThings 204 = .ok (.invokevirtual 77, 3) := by decide +kernel
theorem zd_XReader_readThings_207 : decode zb_XReader_readThings 207 = .ok (.aload_n 0, 1) := by decide +kernel
theorem zd_XReader_readThings_208 : decode zb_XReader_readThings 208 = .ok (.bipush 93, 2) := by decide +kernel
theorem zd_XReader_readThings_210 : decode zb_XReader_readThings 210 = .ok (.invokevirtual 45, 3) := by decide +kernel
theorem zd_XReader_readThings_213 : decode zb_XReader_readThings 213 = .ok (.return_, 1) := by decide +kernel
theorem zw_1223 : (Jvm.Cond.fieldLinkNest "OrreryBox$Reader" (95 : Nat) "OrreryBox" "LIMITS" "[I" "OrreryBox") ∈ gn := gn_t 1223 (by decide +kernel) rfl
theorem zw_286 : (Jvm.Cond.fieldLink "OrreryBox$Reader" (98 : Nat) "OrreryBox$Scene" "textures" "[LOrreryBox$Texture;") ∈ gw := gw_t 286 (by decide +kernel) rfl
theorem zw_1224 : (Jvm.Cond.methodLink "OrreryBox$Reader" (101 : Nat) ({ cls := "OrreryBox$Reader", name := "readTexture", desc := "(LOrreryBox$Texture;)V" } : Jvm.MethodName)) ∈ gw := gw_t 1224 (by decide +kernel) rfl
theorem zw_1226 : (Jvm.Cond.instanceMethod ({ cls := "OrreryBox$Reader", name := "readTexture", desc := "(LOrreryBox$Texture;)V" } : Jvm.MethodName)) ∈ gw := gw_t 1226 (by decide +kernel) rfl
theorem zv_61 : (Jvm.Cond.selects "OrreryBox$Reader" (⟨"OrreryBox$Reader", "readTexture", "(LOrreryBox$Texture;)V"⟩ : MethodName) ⟨"OrreryBox$Reader", "readTexture", "(LOrreryBox$Texture;)V"⟩) ∈ gw := gw_s 61 (by decide +kernel) rfl
theorem zs_XReader_101 : zwV "OrreryBox$Reader" 101 "OrreryBox$Reader" zy_XReader_readTexture zb_XReader_readTexture 3 none := ⟨zw_1224, zw_1226, zv_61, zw_2, zc_XReader_readTexture⟩
theorem zw_289 : (Jvm.Cond.fieldLink "OrreryBox$Reader" (105 : Nat) "OrreryBox$Scene" "materials" "[[I") ∈ gw := gw_t 289 (by decide +kernel) rfl
theorem zw_1243 : (Jvm.Cond.methodLink "OrreryBox$Reader" (108 : Nat) ({ cls := "OrreryBox$Reader", name := "readMaterial", desc := "([I)V" } : Jvm.MethodName)) ∈ gw := gw_t 1243 (by decide +kernel) rfl
theorem zw_1245 : (Jvm.Cond.instanceMethod ({ cls := "OrreryBox$Reader", name := "readMaterial", desc := "([I)V" } : Jvm.MethodName)) ∈ gw := gw_t 1245 (by decide +kernel) rfl
theorem zv_63 : (Jvm.Cond.selects "OrreryBox$Reader" (⟨"OrreryBox$Reader", "readMaterial", "([I)V"⟩ : MethodName) ⟨"OrreryBox$Reader", "readMaterial", "([I)V"⟩) ∈ gw := gw_s 63 (by decide +kernel) rfl
theorem zs_XReader_108 : zwV "OrreryBox$Reader" 108 "OrreryBox$Reader" zy_XReader_readMaterial zb_XReader_readMaterial 2 none := ⟨zw_1243, zw_1245, zv_63, zw_2, zc_XReader_readMaterial⟩
theorem zw_293 : (Jvm.Cond.fieldLink "OrreryBox$Reader" (112 : Nat) "OrreryBox$Scene" "meshes" "[LOrreryBox$Mesh;") ∈ gw := gw_t 293 (by decide +kernel) rfl
theorem zw_1250 : (Jvm.Cond.methodLink "OrreryBox$Reader" (115 : Nat) ({ cls := "OrreryBox$Reader", name := "readMesh", desc := "(LOrreryBox$Mesh;)V" } : Jvm.MethodName)) ∈ gw := gw_t 1250 (by decide +kernel) rfl
theorem zw_1252 : (Jvm.Cond.instanceMethod ({ cls := "OrreryBox$Reader", name := "readMesh", desc := "(LOrreryBox$Mesh;)V" } : Jvm.MethodName)) ∈ gw := gw_t 1252 (by decide +kernel) rfl
theorem zv_64 : (Jvm.Cond.selects "OrreryBox$Reader" (⟨"OrreryBox$Reader", "readMesh", "(LOrreryBox$Mesh;)V"⟩ : MethodName) ⟨"OrreryBox$Reader", "readMesh", "(LOrreryBox$Mesh;)V"⟩) ∈ gw := gw_s 64 (by decide +kernel) rfl
theorem zs_XReader_115 : zwV "OrreryBox$Reader" 115 "OrreryBox$Reader" zy_XReader_readMesh zb_XReader_readMesh 5 none := ⟨zw_1250, zw_1252, zv_64, zw_2, zc_XReader_readMesh⟩
theorem zw_297 : (Jvm.Cond.fieldLink "OrreryBox$Reader" (119 : Nat) "OrreryBox$Scene" "nodes" "[LOrreryBox$Node;") ∈ gw := gw_t 297 (by decide +kernel) rfl
theorem zw_1261 : (Jvm.Cond.methodLink "OrreryBox$Reader" (122 : Nat) ({ cls := "OrreryBox$Reader", name := "readNode", desc := "(LOrreryBox$Node;I)V" } : Jvm.MethodName)) ∈ gw := gw_t 1261 (by decide +kernel) rfl
theorem zw_1263 : (Jvm.Cond.instanceMethod ({ cls := "OrreryBox$Reader", name := "readNode", desc := "(LOrreryBox$Node;I)V" } : Jvm.MethodName)) ∈ gw := gw_t 1263 (by decide +kernel) rfl
theorem zv_65 : (Jvm.Cond.selects "OrreryBox$Reader" (⟨"OrreryBox$Reader", "readNode", "(LOrreryBox$Node;I)V"⟩ : MethodName) ⟨"OrreryBox$Reader", "readNode", "(LOrreryBox$Node;I)V"⟩) ∈ gw := gw_s 65 (by decide +kernel) rfl
theorem zs_XReader_122 : zwV "OrreryBox$Reader" 122 "OrreryBox$Reader" zy_XReader_readNode zb_XReader_readNode 3 none := ⟨zw_1261, zw_1263, zv_65, zw_2, zc_XReader_readNode⟩
theorem zw_300 : (Jvm.Cond.fieldLink "OrreryBox$Reader" (126 : Nat) "OrreryBox$Scene" "tracks" "[LOrreryBox$Track;") ∈ gw := gw_t 300 (by decide +kernel) rfl
theorem zw_1268 : (Jvm.Cond.methodLink "OrreryBox$Reader" (129 : Nat) ({ cls := "OrreryBox$Reader", name := "readTrack", desc := "(LOrreryBox$Track;)V" } : Jvm.MethodName)) ∈ gw := gw_t 1268 (by decide +kernel) rfl
theorem zw_1270 : (Jvm.Cond.instanceMethod ({ cls := "OrreryBox$Reader", name := "readTrack", desc := "(LOrreryBox$Track;)V" } : Jvm.MethodName)) ∈ gw := gw_t 1270 (by decide +kernel) rfl
theorem zv_66 : (Jvm.Cond.selects "OrreryBox$Reader" (⟨"OrreryBox$Reader", "readTrack", "(LOrreryBox$Track;)V"⟩ : MethodName) ⟨"OrreryBox$Reader", "readTrack", "(LOrreryBox$Track;)V"⟩) ∈ gw := gw_s 66 (by decide +kernel) rfl
theorem zs_XReader_129 : zwV "OrreryBox$Reader" 129 "OrreryBox$Reader" zy_XReader_readTrack zb_XReader_readTrack 4 none := ⟨zw_1268, zw_1270, zv_66, zw_2, zc_XReader_readTrack⟩
def L_XReader_readThings_23 (sh : zSh) (fuel : Nat) (v0 : Nat) (v1 : Int32) (v2 : Int32) (v3 : Int32) (mm : zMem) : Option (Nat × Int32 × Int32 × Int32 × zMem) := match fuel with
  | 0 => none
  | fu + 1 => (if (v1 : Int32) < 0 ∨ 5 ≤ (v1 : Int32).toNatClampNeg then none else (if (zliI (v1 : Int32).toNatClampNeg) ≤ v3 then some (v0, v1, v2, v3, mm) else (if v2 = 0 then some (v0, v1, v2, v3, mm) else zoS (sh v0) 7 (fun le12 => Option.bind (F_XReader_need sh mm v0 123) (fun p13 => (if v1 = 0 then zoS (sh v0) 7 (fun le16 => Option.bind (p13.2.2 v0 7) (fun a17 => zoS (sh a17) 8 (fun le19 => Option.bind (p13.2.2 a17 1) (fun a20 => zoR (sh a20) (fun t24 le22 => if (v3 : Int32) < 0 ∨ le22 ≤ (v3 : Int32).toNatClampNeg then none else Option.bind (p13.2.2 a20 (v3 : Int32).toNatClampNeg) (fun a25 => zoS (sh v0) 7 (fun le27 => Option.bind (F_XReader_readTexture sh p13 v0 a25) (fun p28 => zoS (sh v0) 7 (fun le30 => Option.bind (F_XReader_need sh p28 v0 125) (fun p31 => zoS (sh v0) 7 (fun le33 => Option.bind (p31.2.2 v0 7) (fun a34 => zoS (sh a34) 8 (fun le36 => Option.bind (p31.2.2 a34 0) (fun a37 => zoL (v3 + 1) (fun x38 => zoS (sh a37) 100 (fun le40 => if (v1 : Int32) < 0 ∨ le40 ≤ (v1 : Int32).toNatClampNeg then none else zoL (mI p31 a37 (v1 : Int32).toNatClampNeg x38) (fun mm42 => zoS (sh v0) 7 (fun le44 => Option.bind (F_XReader_takes sh mm42 v0 44) (fun p45 => L_XReader_readThings_23 sh fu v0 v1 (p45.1) (v3 + 1) (p45.2)))))))))))))))))))) else (if v1 = 1 then zoS (sh v0) 7 (fun le47 => Option.bind (p13.2.2 v0 7) (fun a48 => zoS (sh a48) 8 (fun le50 => Option.bind (p13.2.2 a48 2) (fun a51 => zoR (sh a51) (fun t55 le53 => if (v3 : Int32) < 0 ∨ le53 ≤ (v3 : Int32).toNatClampNeg then none else Option.bind (p13.2.2 a51 (v3 : Int32).toNatClampNeg) (fun a56 => zoS (sh v0) 7 (fun le58 => Option.bind (F_XReader_readMaterial sh p13 v0 a56) (fun p59 => zoS (sh v0) 7 (fun le61 => Option.bind (F_XReader_need sh p59 v0 125) (fun p62 => zoS (sh v0) 7 (fun le64 => Option.bind (p62.2.2 v0 7) (fun a65 => zoS (sh a65) 8 (fun le67 => Option.bind (p62.2.2 a65 0) (fun a68 => zoL (v3 + 1) (fun x69 => zoS (sh a68) 100 (fun le71 => if (v1 : Int32) < 0 ∨ le71 ≤ (v1 : Int32).toNatClampNeg then none else zoL (mI p62 a68 (v1 : Int32).toNatClampNeg x69) (fun mm73 => zoS (sh v0) 7 (fun le75 => Option.bind (F_XReader_takes sh mm73 v0 44) (fun p76 => L_XReader_readThings_23 sh fu v0 v1 (p76.1) (v3 + 1) (p76.2)))))))))))))))))))) else (if v1 = 2 then zoS (sh v0) 7 (fun le78 => Option.bind (p13.2.2 v0 7) (fun a79 => zoS (sh a79) 8 (fun le81 => Option.bind (p13.2.2 a79 3) (fun a82 => zoR (sh a82) (fun t86 le84 => if (v3 : Int32) < 0 ∨ le84 ≤ (v3 : Int32).toNatClampNeg then none else Option.bind (p13.2.2 a82 (v3 : Int32).toNatClampNeg) (fun a87 => zoS (sh v0) 7 (fun le89 => Option.bind (F_XReader_readMesh sh p13 v0 a87) (fun p90 => zoS (sh v0) 7 (fun le92 => Option.bind (F_XReader_need sh p90 v0 125) (fun p93 => zoS (sh v0) 7 (fun le95 => Option.bind (p93.2.2 v0 7) (fun a96 => zoS (sh a96) 8 (fun le98 => Option.bind (p93.2.2 a96 0) (fun a99 => zoL (v3 + 1) (fun x100 => zoS (sh a99) 100 (fun le102 => if (v1 : Int32) < 0 ∨ le102 ≤ (v1 : Int32).toNatClampNeg then none else zoL (mI p93 a99 (v1 : Int32).toNatClampNeg x100) (fun mm104 => zoS (sh v0) 7 (fun le106 => Option.bind (F_XReader_takes sh mm104 v0 44) (fun p107 => L_XReader_readThings_23 sh fu v0 v1 (p107.1) (v3 + 1) (p107.2)))))))))))))))))))) else (if v1 = 3 then zoS (sh v0) 7 (fun le109 => Option.bind (p13.2.2 v0 7) (fun a110 => zoS (sh a110) 8 (fun le112 => Option.bind (p13.2.2 a110 4) (fun a113 => zoR (sh a113) (fun t117 le115 => if (v3 : Int32) < 0 ∨ le115 ≤ (v3 : Int32).toNatClampNeg then none else Option.bind (p13.2.2 a113 (v3 : Int32).toNatClampNeg) (fun a118 => zoS (sh v0) 7 (fun le120 => Option.bind (F_XReader_readNode sh p13 v0 a118 v3) (fun p121 => zoS (sh v0) 7 (fun le123 => Option.bind (F_XReader_need sh p121 v0 125) (fun p124 => zoS (sh v0) 7 (fun le126 => Option.bind (p124.2.2 v0 7) (fun a127 => zoS (sh a127) 8 (fun le129 => Option.bind (p124.2.2 a127 0) (fun a130 => zoL (v3 + 1) (fun x131 => zoS (sh a130) 100 (fun le133 => if (v1 : Int32) < 0 ∨ le133 ≤ (v1 : Int32).toNatClampNeg then none else zoL (mI p124 a130 (v1 : Int32).toNatClampNeg x131) (fun mm135 => zoS (sh v0) 7 (fun le137 => Option.bind (F_XReader_takes sh mm135 v0 44) (fun p138 => L_XReader_readThings_23 sh fu v0 v1 (p138.1) (v3 + 1) (p138.2)))))))))))))))))))) else zoS (sh v0) 7 (fun le140 => Option.bind (p13.2.2 v0 7) (fun a141 => zoS (sh a141) 8 (fun le143 => Option.bind (p13.2.2 a141 5) (fun a144 => zoR (sh a144) (fun t148 le146 => if (v3 : Int32) < 0 ∨ le146 ≤ (v3 : Int32).toNatClampNeg then none else Option.bind (p13.2.2 a144 (v3 : Int32).toNatClampNeg) (fun a149 => zoS (sh v0) 7 (fun le151 => Option.bind (F_XReader_readTrack sh p13 v0 a149) (fun p152 => zoS (sh v0) 7 (fun le154 => Option.bind (F_XReader_need sh p152 v0 125) (fun p155 => zoS (sh v0) 7 (fun le157 => Option.bind (p155.2.2 v0 7) (fun a158 => zoS (sh a158) 8 (fun le160 => Option.bind (p155.2.2 a158 0) (fun a161 => zoL (v3 + 1) (fun x162 => zoS (sh a161) 100 (fun le164 => if (v1 : Int32) < 0 ∨ le164 ≤ (v1 : Int32).toNatClampNeg then none else zoL (mI p155 a161 (v1 : Int32).toNatClampNeg x162) (fun mm166 => zoS (sh v0) 7 (fun le168 => Option.bind (F_XReader_takes sh mm166 v0 44) (fun p169 => L_XReader_readThings_23 sh fu v0 v1 (p169.1) (v3 + 1) (p169.2)))))))))))))))))))))))))))))
set_option maxHeartbeats 4000000 in
set_option maxRecDepth 100000 in
theorem lp_XReader_readThings_23 {p : Program} {l : Launch} {e : Env} {s : State} {m : MethodId} {args : Array Value} {below : List Frame} {meth : Method} {c : Code} {D : va_G} {tA : Nat → ClassId} {b n : Nat} {post : Option Value → zV → Nat → Prop} {sh : zSh} (F : zF p s m args meth c zb_XReader_readThings 4 "OrreryBox$Reader" D tA b) : ∀ (fuel : Nat) (v0 : Nat) (v1 : Int32) (v2 : Int32) (v3 : Int32) (mm : zMem) (r : Nat × Int32 × Int32 × Int32 × zMem), L_XReader_readThings_23 sh fuel v0 v1 v2 v3 mm = some r → (Z p l e { frames := 8, cells := 0, slots := 0, locals := 182 } s m args below meth c D b 4 (MQ below (zQ D b post) args s 0 0 (fun q => b ≤ q)) (zW tA b sh r.2.2.2.2) n 0 0 181 [(0, .ref (b + (r.1))), (1, .int (r.2.1)), (2, .int (r.2.2.1)), (3, .int (r.2.2.2.1))] []) → Z p l e { frames := 8, cells := 0, slots := 0, locals := 182 } s m args below meth c D b 4 (MQ below (zQ D b post) args s 0 0 (fun q => b ≤ q)) (zW tA b sh mm) n 0 0 23 [(0, .ref (b + v0)), (1, .int v1), (2, .int v2), (3, .int v3)] [] := by
  intro fuel
  induction fuel with
  | zero =>
    intro v0 v1 v2 v3 mm r h
    cases h
  | succ fu ih =>
    intro v0 v1 v2 v3 mm r h hx0
    rw [L_XReader_readThings_23] at h
    refine zr_iload_n F zd_XReader_readThings_23 rfl ?_
    refine zr_gl F zd_XReader_readThings_24 zw_1223 (fun tl hT => ?_)
    refine zr_iload_n F zd_XReader_readThings_27 rfl ?_
    obtain ⟨hi8, h⟩ := zoI_s h
    refine zr_ti (v := .int (zliI (v1 : Int32).toNatClampNeg)) F zd_XReader_readThings_28 hT hi8 rfl ?_
    refine zr_pcn 29 rfl ?_
    refine zr_icmp_ge F 181 zd_XReader_readThings_29 (by decide) (fun hb9 => ?_) (fun hb9 => ?_)
    ·
      replace h := (if_pos hb9).symm.trans h
      obtain rfl := Option.some.inj h
      refine zr_loc (L' := [(0, .ref (b + v0)), (1, .int v1), (2, .int v2), (3, .int v3)]) ⟨rfl, rfl, rfl, rfl, trivial⟩ ?_
      exact hx0 
    ·
      replace h := (if_neg hb9).symm.trans h
      refine zr_iload_n F zd_XReader_readThings_32 rfl ?_
      refine zr_if_eq F 181 zd_XReader_readThings_33 (by decide) (fun hb10 => ?_) (fun hb10 => ?_)
      ·
        replace h := (if_pos hb10).symm.trans h
        obtain rfl := Option.some.inj h
        refine zr_loc (L' := [(0, .ref (b + v0)), (1, .int v1), (2, .int v2), (3, .int v3)]) ⟨rfl, rfl, rfl, rfl, trivial⟩ ?_
        exact hx0 
      ·
        replace h := (if_neg hb10).symm.trans h
        refine zr_aload_n F zd_XReader_readThings_36 rfl ?_
        refine zr_bipushv (v := 123) F zd_XReader_readThings_37 (by decide) ?_
        obtain ⟨le12, hs11, h⟩ := zoS_s h
        obtain ⟨p13, ep13, h⟩ := zoB_s h
        refine zr_callV0 F (k_XReader_need l D tA b sh _ ep13) zd_XReader_readThings_39 (zW_o hs11 (by decide)) rfl zs_XReader_45 rfl zq_XReader_need rfl rfl ⟨(Nat.le_of_ble_eq_true rfl), (Nat.le_of_ble_eq_true rfl)⟩ (Nat.le_of_ble_eq_true rfl) ⟨(Nat.le_of_ble_eq_true rfl), (Nat.le_of_ble_eq_true rfl)⟩ ?_
        refine zr_iload_n F zd_XReader_readThings_42 rfl ?_
        by_cases hb14_0 : v1 = 0
        ·
          rw [if_pos hb14_0] at h
          refine zr_tableIn F 72 zd_XReader_readThings_43 (by rw [hb14_0]; decide) (by rw [hb14_0]; decide) (by rw [hb14_0]; rfl) (by decide) ?_
          refine zr_pcn 72 rfl ?_
          refine zr_aload_n F zd_XReader_readThings_72 rfl ?_
          refine zr_aload_n F zd_XReader_readThings_73 rfl ?_
          obtain ⟨le16, hs15, h⟩ := zoS_s h
          obtain ⟨a17, ea17, h⟩ := zoB_s h
          refine zr_get F 7 7 zd_XReader_readThings_74 (zW_o hs15 (by decide)) rfl (by decide) zw_55 rfl (by rfl) ?_
          refine zr_tor ea17 ?_
          obtain ⟨le19, hs18, h⟩ := zoS_s h
          obtain ⟨a20, ea20, h⟩ := zoB_s h
          refine zr_get F 8 1 zd_XReader_readThings_77 (zW_o hs18 (by decide)) rfl (by decide) zw_286 rfl (by rfl) ?_
          refine zr_tor ea20 ?_
          refine zr_iload_n F zd_XReader_readThings_80 rfl ?_
          obtain ⟨t24, le22, hs21, h⟩ := zoR_s h
          obtain ⟨hi23, h⟩ := zoI_s h
          obtain ⟨a25, ea25, h⟩ := zoB_s h
          refine zr_aaldW F zd_XReader_readThings_81 hs21 hi23 ea25 ?_
          obtain ⟨le27, hs26, h⟩ := zoS_s h
          obtain ⟨p28, ep28, h⟩ := zoB_s h
          refine zr_callV0 F (k_XReader_readTexture l D tA b sh _ ep28) zd_XReader_readThings_82 (zW_o hs26 (by decide)) rfl zs_XReader_101 rfl zq_XReader_readTexture rfl rfl ⟨(Nat.le_of_ble_eq_true rfl), (Nat.le_of_ble_eq_true rfl)⟩ (Nat.le_of_ble_eq_true rfl) ⟨(Nat.le_of_ble_eq_true rfl), (Nat.le_of_ble_eq_true rfl)⟩ ?_
          refine zr_goto F 150 zd_XReader_readThings_85 (by decide) ?_
          refine zr_pcn 150 rfl ?_
          refine zr_aload_n F zd_XReader_readThings_150 rfl ?_
          refine zr_bipushv (v := 125) F zd_XReader_readThings_151 (by decide) ?_
          obtain ⟨le30, hs29, h⟩ := zoS_s h
          obtain ⟨p31, ep31, h⟩ := zoB_s h
          refine zr_callV0 F (k_XReader_need l D tA b sh _ ep31) zd_XReader_readThings_153 (zW_o hs29 (by decide)) rfl zs_XReader_45 rfl zq_XReader_need rfl rfl ⟨(Nat.le_of_ble_eq_true rfl), (Nat.le_of_ble_eq_true rfl)⟩ (Nat.le_of_ble_eq_true rfl) ⟨(Nat.le_of_ble_eq_true rfl), (Nat.le_of_ble_eq_true rfl)⟩ ?_
          refine zr_aload_n F zd_XReader_readThings_156 rfl ?_
          obtain ⟨le33, hs32, h⟩ := zoS_s h
          obtain ⟨a34, ea34, h⟩ := zoB_s h
          refine zr_get F 7 7 zd_XReader_readThings_157 (zW_o hs32 (by decide)) rfl (by decide) zw_55 rfl (by rfl) ?_
          refine zr_tor ea34 ?_
          obtain ⟨le36, hs35, h⟩ := zoS_s h
          obtain ⟨a37, ea37, h⟩ := zoB_s h
          refine zr_get F 8 0 zd_XReader_readThings_160 (zW_o hs35 (by decide)) rfl (by decide) zw_284 rfl (by rfl) ?_
          refine zr_tor ea37 ?_
          refine zr_iload_n F zd_XReader_readThings_163 rfl ?_
          refine zr_iload_n F zd_XReader_readThings_164 rfl ?_
          refine zr_pcn 165 rfl ?_
          refine zr_iconstv (v := 1) F zd_XReader_readThings_165 (by decide) ?_
          refine zr_iadd F zd_XReader_readThings_166 ?_
          obtain ⟨x38, ex38, h⟩ := zoL_s h
          rw [← ex38]
          obtain ⟨le40, hs39, h⟩ := zoS_s h
          obtain ⟨hi41, h⟩ := zoI_s h
          refine zr_iast F zd_XReader_readThings_167 (zW_a0 hs39) hi41 ?_
          obtain ⟨mm42, emm42, h⟩ := zoL_s h
          refine zr_norm (zW tA b sh mm42) _ (by rw [emm42]; exact zW_s0 hs39) rfl ?_
          refine zr_aload_n F zd_XReader_readThings_168 rfl ?_
          refine zr_bipushv (v := 44) F zd_XReader_readThings_169 (by decide) ?_
          obtain ⟨le44, hs43, h⟩ := zoS_s h
          obtain ⟨p45, ep45, h⟩ := zoB_s h
          refine zr_callV1 F (k_XReader_takes l D tA b sh _ ep45) zd_XReader_readThings_171 (zW_o hs43 (by decide)) rfl zs_XReader_74 rfl zq_XReader_takes rfl rfl ⟨(Nat.le_of_ble_eq_true rfl), (Nat.le_of_ble_eq_true rfl)⟩ (Nat.le_of_ble_eq_true rfl) ⟨(Nat.le_of_ble_eq_true rfl), (Nat.le_of_ble_eq_true rfl)⟩ ?_
          refine zr_istore_n F zd_XReader_readThings_174 (by decide) ?_
          refine zr_iinc (v := (v3 + 1)) F zd_XReader_readThings_175 rfl rfl (by decide) ?_
          refine zr_pcn 178 rfl ?_
          refine zr_goto F 23 zd_XReader_readThings_178 (by decide) ?_
          refine zr_loc (L' := [(0, .ref (b + v0)), (1, .int v1), (2, .int (p45.1)), (3, .int (v3 + 1))]) ⟨rfl, rfl, rfl, rfl, trivial⟩ ?_
          exact ih _ _ _ _ _ _ h hx0
        ·
          rw [if_neg hb14_0] at h
          by_cases hb14_1 : v1 = 1
          ·
            rw [if_pos hb14_1] at h
            refine zr_tableIn F 88 zd_XReader_readThings_43 (by rw [hb14_1]; decide) (by rw [hb14_1]; decide) (by rw [hb14_1]; rfl) (by decide) ?_
            refine zr_aload_n F zd_XReader_readThings_88 rfl ?_
            refine zr_aload_n F zd_XReader_readThings_89 rfl ?_
            obtain ⟨le47, hs46, h⟩ := zoS_s h
            obtain ⟨a48, ea48, h⟩ := zoB_s h
            refine zr_get F 7 7 zd_XReader_readThings_90 (zW_o hs46 (by decide)) rfl (by decide) zw_55 rfl (by rfl) ?_
            refine zr_tor ea48 ?_
            obtain ⟨le50, hs49, h⟩ := zoS_s h
            obtain ⟨a51, ea51, h⟩ := zoB_s h
            refine zr_get F 8 2 zd_XReader_readThings_93 (zW_o hs49 (by decide)) rfl (by decide) zw_289 rfl (by rfl) ?_
            refine zr_tor ea51 ?_
            refine zr_iload_n F zd_XReader_readThings_96 rfl ?_
            obtain ⟨t55, le53, hs52, h⟩ := zoR_s h
            obtain ⟨hi54, h⟩ := zoI_s h
            obtain ⟨a56, ea56, h⟩ := zoB_s h
            refine zr_aaldW F zd_XReader_readThings_97 hs52 hi54 ea56 ?_
            obtain ⟨le58, hs57, h⟩ := zoS_s h
            obtain ⟨p59, ep59, h⟩ := zoB_s h
            refine zr_callV0 F (k_XReader_readMaterial l D tA b sh _ ep59) zd_XReader_readThings_98 (zW_o hs57 (by decide)) rfl zs_XReader_108 rfl zq_XReader_readMaterial rfl rfl ⟨(Nat.le_of_ble_eq_true rfl), (Nat.le_of_ble_eq_true rfl)⟩ (Nat.le_of_ble_eq_true rfl) ⟨(Nat.le_of_ble_eq_true rfl), (Nat.le_of_ble_eq_true rfl)⟩ ?_
            refine zr_pcn 101 rfl ?_
            refine zr_goto F 150 zd_XReader_readThings_101 (by decide) ?_
            refine zr_aload_n F zd_XReader_readThings_150 rfl ?_
            refine zr_bipushv (v := 125) F zd_XReader_readThings_151 (by decide) ?_
            obtain ⟨le61, hs60, h⟩ := zoS_s h
            obtain ⟨p62, ep62, h⟩ := zoB_s h
            refine zr_callV0 F (k_XReader_need l D tA b sh _ ep62) zd_XReader_readThings_153 (zW_o hs60 (by decide)) rfl zs_XReader_45 rfl zq_XReader_need rfl rfl ⟨(Nat.le_of_ble_eq_true rfl), (Nat.le_of_ble_eq_true rfl)⟩ (Nat.le_of_ble_eq_true rfl) ⟨(Nat.le_of_ble_eq_true rfl), (Nat.le_of_ble_eq_true rfl)⟩ ?_
            refine zr_aload_n F zd_XReader_readThings_156 rfl ?_
            obtain ⟨le64, hs63, h⟩ := zoS_s h
            obtain ⟨a65, ea65, h⟩ := zoB_s h
            refine zr_get F 7 7 zd_XReader_readThings_157 (zW_o hs63 (by decide)) rfl (by decide) zw_55 rfl (by rfl) ?_
            refine zr_tor ea65 ?_
            obtain ⟨le67, hs66, h⟩ := zoS_s h
            obtain ⟨a68, ea68, h⟩ := zoB_s h
            refine zr_get F 8 0 zd_XReader_readThings_160 (zW_o hs66 (by decide)) rfl (by decide) zw_284 rfl (by rfl) ?_
            refine zr_tor ea68 ?_
            refine zr_iload_n F zd_XReader_readThings_163 rfl ?_
            refine zr_pcn 164 rfl ?_
            refine zr_iload_n F zd_XReader_readThings_164 rfl ?_
            refine zr_iconstv (v := 1) F zd_XReader_readThings_165 (by decide) ?_
            refine zr_iadd F zd_XReader_readThings_166 ?_
            obtain ⟨x69, ex69, h⟩ := zoL_s h
            rw [← ex69]
            obtain ⟨le71, hs70, h⟩ := zoS_s h
            obtain ⟨hi72, h⟩ := zoI_s h
            refine zr_iast F zd_XReader_readThings_167 (zW_a0 hs70) hi72 ?_
            obtain ⟨mm73, emm73, h⟩ := zoL_s h
            refine zr_norm (zW tA b sh mm73) _ (by rw [emm73]; exact zW_s0 hs70) rfl ?_
            refine zr_aload_n F zd_XReader_readThings_168 rfl ?_
            refine zr_bipushv (v := 44) F zd_XReader_readThings_169 (by decide) ?_
            obtain ⟨le75, hs74, h⟩ := zoS_s h
            obtain ⟨p76, ep76, h⟩ := zoB_s h
            refine zr_callV1 F (k_XReader_takes l D tA b sh _ ep76) zd_XReader_readThings_171 (zW_o hs74 (by decide)) rfl zs_XReader_74 rfl zq_XReader_takes rfl rfl ⟨(Nat.le_of_ble_eq_true rfl), (Nat.le_of_ble_eq_true rfl)⟩ (Nat.le_of_ble_eq_true rfl) ⟨(Nat.le_of_ble_eq_true rfl), (Nat.le_of_ble_eq_true rfl)⟩ ?_
            refine zr_istore_n F zd_XReader_readThings_174 (by decide) ?_
            refine zr_pcn 175 rfl ?_
            refine zr_iinc (v := (v3 + 1)) F zd_XReader_readThings_175 rfl rfl (by decide) ?_
            refine zr_goto F 23 zd_XReader_readThings_178 (by decide) ?_
            refine zr_loc (L' := [(0, .ref (b + v0)), (1, .int v1), (2, .int (p76.1)), (3, .int (v3 + 1))]) ⟨rfl, rfl, rfl, rfl, trivial⟩ ?_
            exact ih _ _ _ _ _ _ h hx0
          ·
            rw [if_neg hb14_1] at h
            by_cases hb14_2 : v1 = 2
            ·
              rw [if_pos hb14_2] at h
              refine zr_tableIn F 104 zd_XReader_readThings_43 (by rw [hb14_2]; decide) (by rw [hb14_2]; decide) (by rw [hb14_2]; rfl) (by decide) ?_
              refine zr_aload_n F zd_XReader_readThings_104 rfl ?_
              refine zr_aload_n F zd_XReader_readThings_105 rfl ?_
              obtain ⟨le78, hs77, h⟩ := zoS_s h
              obtain ⟨a79, ea79, h⟩ := zoB_s h
              refine zr_get F 7 7 zd_XReader_readThings_106 (zW_o hs77 (by decide)) rfl (by decide) zw_55 rfl (by rfl) ?_
              refine zr_tor ea79 ?_
              obtain ⟨le81, hs80, h⟩ := zoS_s h
              obtain ⟨a82, ea82, h⟩ := zoB_s h
              refine zr_get F 8 3 zd_XReader_readThings_109 (zW_o hs80 (by decide)) rfl (by decide) zw_293 rfl (by rfl) ?_
              refine zr_tor ea82 ?_
              refine zr_iload_n F zd_XReader_readThings_112 rfl ?_
              obtain ⟨t86, le84, hs83, h⟩ := zoR_s h
              obtain ⟨hi85, h⟩ := zoI_s h
              obtain ⟨a87, ea87, h⟩ := zoB_s h
              refine zr_aaldW F zd_XReader_readThings_113 hs83 hi85 ea87 ?_
              refine zr_pcn 114 rfl ?_
              obtain ⟨le89, hs88, h⟩ := zoS_s h
              obtain ⟨p90, ep90, h⟩ := zoB_s h
              refine zr_callV0 F (k_XReader_readMesh l D tA b sh _ ep90) zd_XReader_readThings_114 (zW_o hs88 (by decide)) rfl zs_XReader_115 rfl zq_XReader_readMesh rfl rfl ⟨(Nat.le_of_ble_eq_true rfl), (Nat.le_of_ble_eq_true rfl)⟩ (Nat.le_of_ble_eq_true rfl) ⟨(Nat.le_of_ble_eq_true rfl), (Nat.le_of_ble_eq_true rfl)⟩ ?_
              refine zr_goto F 150 zd_XReader_readThings_117 (by decide) ?_
              refine zr_aload_n F zd_XReader_readThings_150 rfl ?_
              refine zr_bipushv (v := 125) F zd_XReader_readThings_151 (by decide) ?_
              obtain ⟨le92, hs91, h⟩ := zoS_s h
              obtain ⟨p93, ep93, h⟩ := zoB_s h
              refine zr_callV0 F (k_XReader_need l D tA b sh _ ep93) zd_XReader_readThings_153 (zW_o hs91 (by decide)) rfl zs_XReader_45 rfl zq_XReader_need rfl rfl ⟨(Nat.le_of_ble_eq_true rfl), (Nat.le_of_ble_eq_true rfl)⟩ (Nat.le_of_ble_eq_true rfl) ⟨(Nat.le_of_ble_eq_true rfl), (Nat.le_of_ble_eq_true rfl)⟩ ?_
              refine zr_aload_n F zd_XReader_readThings_156 rfl ?_
              obtain ⟨le95, hs94, h⟩ := zoS_s h
              obtain ⟨a96, ea96, h⟩ := zoB_s h
              refine zr_get F 7 7 zd_XReader_readThings_157 (zW_o hs94 (by decide)) rfl (by decide) zw_55 rfl (by rfl) ?_
              refine zr_tor ea96 ?_
              obtain ⟨le98, hs97, h⟩ := zoS_s h
              obtain ⟨a99, ea99, h⟩ := zoB_s h
              refine zr_get F 8 0 zd_XReader_readThings_160 (zW_o hs97 (by decide)) rfl (by decide) zw_284 rfl (by rfl) ?_
              refine zr_tor ea99 ?_
              refine zr_pcn 163 rfl ?_
              refine zr_iload_n F zd_XReader_readThings_163 rfl ?_
              refine zr_iload_n F zd_XReader_readThings_164 rfl ?_
              refine zr_iconstv (v := 1) F zd_XReader_readThings_165 (by decide) ?_
              refine zr_iadd F zd_XReader_readThings_166 ?_
              obtain ⟨x100, ex100, h⟩ := zoL_s h
              rw [← ex100]
              obtain ⟨le102, hs101, h⟩ := zoS_s h
              obtain ⟨hi103, h⟩ := zoI_s h
              refine zr_iast F zd_XReader_readThings_167 (zW_a0 hs101) hi103 ?_
              obtain ⟨mm104, emm104, h⟩ := zoL_s h
              refine zr_norm (zW tA b sh mm104) _ (by rw [emm104]; exact zW_s0 hs101) rfl ?_
              refine zr_aload_n F zd_XReader_readThings_168 rfl ?_
              refine zr_bipushv (v := 44) F zd_XReader_readThings_169 (by decide) ?_
              obtain ⟨le106, hs105, h⟩ := zoS_s h
              obtain ⟨p107, ep107, h⟩ := zoB_s h
              refine zr_callV1 F (k_XReader_takes l D tA b sh _ ep107) zd_XReader_readThings_171 (zW_o hs105 (by decide)) rfl zs_XReader_74 rfl zq_XReader_takes rfl rfl ⟨(Nat.le_of_ble_eq_true rfl), (Nat.le_of_ble_eq_true rfl)⟩ (Nat.le_of_ble_eq_true rfl) ⟨(Nat.le_of_ble_eq_true rfl), (Nat.le_of_ble_eq_true rfl)⟩ ?_
              refine zr_pcn 174 rfl ?_
              refine zr_istore_n F zd_XReader_readThings_174 (by decide) ?_
              refine zr_iinc (v := (v3 + 1)) F zd_XReader_readThings_175 rfl rfl (by decide) ?_
              refine zr_goto F 23 zd_XReader_readThings_178 (by decide) ?_
              refine zr_loc (L' := [(0, .ref (b + v0)), (1, .int v1), (2, .int (p107.1)), (3, .int (v3 + 1))]) ⟨rfl, rfl, rfl, rfl, trivial⟩ ?_
              exact ih _ _ _ _ _ _ h hx0
            ·
              rw [if_neg hb14_2] at h
              by_cases hb14_3 : v1 = 3
              ·
                rw [if_pos hb14_3] at h
                refine zr_tableIn F 120 zd_XReader_readThings_43 (by rw [hb14_3]; decide) (by rw [hb14_3]; decide) (by rw [hb14_3]; rfl) (by decide) ?_
                refine zr_aload_n F zd_XReader_readThings_120 rfl ?_
                refine zr_aload_n F zd_XReader_readThings_121 rfl ?_
                obtain ⟨le109, hs108, h⟩ := zoS_s h
                obtain ⟨a110, ea110, h⟩ := zoB_s h
                refine zr_get F 7 7 zd_XReader_readThings_122 (zW_o hs108 (by decide)) rfl (by decide) zw_55 rfl (by rfl) ?_
                refine zr_tor ea110 ?_
                obtain ⟨le112, hs111, h⟩ := zoS_s h
                obtain ⟨a113, ea113, h⟩ := zoB_s h
                refine zr_get F 8 4 zd_XReader_readThings_125 (zW_o hs111 (by decide)) rfl (by decide) zw_297 rfl (by rfl) ?_
                refine zr_tor ea113 ?_
                refine zr_iload_n F zd_XReader_readThings_128 rfl ?_
                refine zr_pcn 129 rfl ?_
                obtain ⟨t117, le115, hs114, h⟩ := zoR_s h
                obtain ⟨hi116, h⟩ := zoI_s h
                obtain ⟨a118, ea118, h⟩ := zoB_s h
                refine zr_aaldW F zd_XReader_readThings_129 hs114 hi116 ea118 ?_
                refine zr_iload_n F zd_XReader_readThings_130 rfl ?_
                obtain ⟨le120, hs119, h⟩ := zoS_s h
                obtain ⟨p121, ep121, h⟩ := zoB_s h
                refine zr_callV0 F (k_XReader_readNode l D tA b sh _ ep121) zd_XReader_readThings_131 (zW_o hs119 (by decide)) rfl zs_XReader_122 rfl zq_XReader_readNode rfl rfl ⟨(Nat.le_of_ble_eq_true rfl), (Nat.le_of_ble_eq_true rfl)⟩ (Nat.le_of_ble_eq_true rfl) ⟨(Nat.le_of_ble_eq_true rfl), (Nat.le_of_ble_eq_true rfl)⟩ ?_
                refine zr_goto F 150 zd_XReader_readThings_134 (by decide) ?_
                refine zr_aload_n F zd_XReader_readThings_150 rfl ?_
                refine zr_bipushv (v := 125) F zd_XReader_readThings_151 (by decide) ?_
                obtain ⟨le123, hs122, h⟩ := zoS_s h
                obtain ⟨p124, ep124, h⟩ := zoB_s h
                refine zr_callV0 F (k_XReader_need l D tA b sh _ ep124) zd_XReader_readThings_153 (zW_o hs122 (by decide)) rfl zs_XReader_45 rfl zq_XReader_need rfl rfl ⟨(Nat.le_of_ble_eq_true rfl), (Nat.le_of_ble_eq_true rfl)⟩ (Nat.le_of_ble_eq_true rfl) ⟨(Nat.le_of_ble_eq_true rfl), (Nat.le_of_ble_eq_true rfl)⟩ ?_
                refine zr_aload_n F zd_XReader_readThings_156 rfl ?_
                refine zr_pcn 157 rfl ?_
                obtain ⟨le126, hs125, h⟩ := zoS_s h
                obtain ⟨a127, ea127, h⟩ := zoB_s h
                refine zr_get F 7 7 zd_XReader_readThings_157 (zW_o hs125 (by decide)) rfl (by decide) zw_55 rfl (by rfl) ?_
                refine zr_tor ea127 ?_
                obtain ⟨le129, hs128, h⟩ := zoS_s h
                obtain ⟨a130, ea130, h⟩ := zoB_s h
                refine zr_get F 8 0 zd_XReader_readThings_160 (zW_o hs128 (by decide)) rfl (by decide) zw_284 rfl (by rfl) ?_
                refine zr_tor ea130 ?_
                refine zr_iload_n F zd_XReader_readThings_163 rfl ?_
                refine zr_iload_n F zd_XReader_readThings_164 rfl ?_
                refine zr_iconstv (v := 1) F zd_XReader_readThings_165 (by decide) ?_
                refine zr_iadd F zd_XReader_readThings_166 ?_
                obtain ⟨x131, ex131, h⟩ := zoL_s h
                rw [← ex131]
                obtain ⟨le133, hs132, h⟩ := zoS_s h
                obtain ⟨hi134, h⟩ := zoI_s h
                refine zr_iast F zd_XReader_readThings_167 (zW_a0 hs132) hi134 ?_
                obtain ⟨mm135, emm135, h⟩ := zoL_s h
                refine zr_norm (zW tA b sh mm135) _ (by rw [emm135]; exact zW_s0 hs132) rfl ?_
                refine zr_aload_n F zd_XReader_readThings_168 rfl ?_
                refine zr_pcn 169 rfl ?_
                refine zr_bipushv (v := 44) F zd_XReader_readThings_169 (by decide) ?_
                obtain ⟨le137, hs136, h⟩ := zoS_s h
                obtain ⟨p138, ep138, h⟩ := zoB_s h
                refine zr_callV1 F (k_XReader_takes l D tA b sh _ ep138) zd_XReader_readThings_171 (zW_o hs136 (by decide)) rfl zs_XReader_74 rfl zq_XReader_takes rfl rfl ⟨(Nat.le_of_ble_eq_true rfl), (Nat.le_of_ble_eq_true rfl)⟩ (Nat.le_of_ble_eq_true rfl) ⟨(Nat.le_of_ble_eq_true rfl), (Nat.le_of_ble_eq_true rfl)⟩ ?_
                refine zr_istore_n F zd_XReader_readThings_174 (by decide) ?_
                refine zr_iinc (v := (v3 + 1)) F zd_XReader_readThings_175 rfl rfl (by decide) ?_
                refine zr_goto F 23 zd_XReader_readThings_178 (by decide) ?_
                refine zr_loc (L' := [(0, .ref (b + v0)), (1, .int v1), (2, .int (p138.1)), (3, .int (v3 + 1))]) ⟨rfl, rfl, rfl, rfl, trivial⟩ ?_
                exact ih _ _ _ _ _ _ h hx0
              ·
                rw [if_neg hb14_3] at h
                refine zr_tableOut F 137 zd_XReader_readThings_43 (zx_out v1 0 3 (by decide) (by decide) (by decide) (by omega) (fun j hj => by match j, hj with | 0, _ => exact hb14_0 | 1, _ => exact hb14_1 | 2, _ => exact hb14_2 | 3, _ => exact hb14_3 | j + 4, hq => exact absurd hq (by omega))) (by decide) ?_
                refine zr_aload_n F zd_XReader_readThings_137 rfl ?_
                refine zr_aload_n F zd_XReader_readThings_138 rfl ?_
                obtain ⟨le140, hs139, h⟩ := zoS_s h
                obtain ⟨a141, ea141, h⟩ := zoB_s h
                refine zr_get F 7 7 zd_XReader_readThings_139 (zW_o hs139 (by decide)) rfl (by decide) zw_55 rfl (by rfl) ?_
                refine zr_tor ea141 ?_
                refine zr_pcn 142 rfl ?_
                obtain ⟨le143, hs142, h⟩ := zoS_s h
                obtain ⟨a144, ea144, h⟩ := zoB_s h
                refine zr_get F 8 5 zd_XReader_readThings_142 (zW_o hs142 (by decide)) rfl (by decide) zw_300 rfl (by rfl) ?_
                refine zr_tor ea144 ?_
                refine zr_iload_n F zd_XReader_readThings_145 rfl ?_
                obtain ⟨t148, le146, hs145, h⟩ := zoR_s h
                obtain ⟨hi147, h⟩ := zoI_s h
                obtain ⟨a149, ea149, h⟩ := zoB_s h
                refine zr_aaldW F zd_XReader_readThings_146 hs145 hi147 ea149 ?_
                obtain ⟨le151, hs150, h⟩ := zoS_s h
                obtain ⟨p152, ep152, h⟩ := zoB_s h
                refine zr_callV0 F (k_XReader_readTrack l D tA b sh _ ep152) zd_XReader_readThings_147 (zW_o hs150 (by decide)) rfl zs_XReader_129 rfl zq_XReader_readTrack rfl rfl ⟨(Nat.le_of_ble_eq_true rfl), (Nat.le_of_ble_eq_true rfl)⟩ (Nat.le_of_ble_eq_true rfl) ⟨(Nat.le_of_ble_eq_true rfl), (Nat.le_of_ble_eq_true rfl)⟩ ?_
                refine zr_aload_n F zd_XReader_readThings_150 rfl ?_
                refine zr_bipushv (v := 125) F zd_XReader_readThings_151 (by decide) ?_
                obtain ⟨le154, hs153, h⟩ := zoS_s h
                obtain ⟨p155, ep155, h⟩ := zoB_s h
                refine zr_callV0 F (k_XReader_need l D tA b sh _ ep155) zd_XReader_readThings_153 (zW_o hs153 (by decide)) rfl zs_XReader_45 rfl zq_XReader_need rfl rfl ⟨(Nat.le_of_ble_eq_true rfl), (Nat.le_of_ble_eq_true rfl)⟩ (Nat.le_of_ble_eq_true rfl) ⟨(Nat.le_of_ble_eq_true rfl), (Nat.le_of_ble_eq_true rfl)⟩ ?_
                refine zr_aload_n F zd_XReader_readThings_156 rfl ?_
                refine zr_pcn 157 rfl ?_
                obtain ⟨le157, hs156, h⟩ := zoS_s h
                obtain ⟨a158, ea158, h⟩ := zoB_s h
                refine zr_get F 7 7 zd_XReader_readThings_157 (zW_o hs156 (by decide)) rfl (by decide) zw_55 rfl (by rfl) ?_
                refine zr_tor ea158 ?_
                obtain ⟨le160, hs159, h⟩ := zoS_s h
                obtain ⟨a161, ea161, h⟩ := zoB_s h
                refine zr_get F 8 0 zd_XReader_readThings_160 (zW_o hs159 (by decide)) rfl (by decide) zw_284 rfl (by rfl) ?_
                refine zr_tor ea161 ?_
                refine zr_iload_n F zd_XReader_readThings_163 rfl ?_
                refine zr_iload_n F zd_XReader_readThings_164 rfl ?_
                refine zr_iconstv (v := 1) F zd_XReader_readThings_165 (by decide) ?_
                refine zr_iadd F zd_XReader_readThings_166 ?_
                obtain ⟨x162, ex162, h⟩ := zoL_s h
                rw [← ex162]
                obtain ⟨le164, hs163, h⟩ := zoS_s h
                obtain ⟨hi165, h⟩ := zoI_s h
                refine zr_iast F zd_XReader_readThings_167 (zW_a0 hs163) hi165 ?_
                obtain ⟨mm166, emm166, h⟩ := zoL_s h
                refine zr_norm (zW tA b sh mm166) _ (by rw [emm166]; exact zW_s0 hs163) rfl ?_
                refine zr_aload_n F zd_XReader_readThings_168 rfl ?_
                refine zr_pcn 169 rfl ?_
                refine zr_bipushv (v := 44) F zd_XReader_readThings_169 (by decide) ?_
                obtain ⟨le168, hs167, h⟩ := zoS_s h
                obtain ⟨p169, ep169, h⟩ := zoB_s h
                refine zr_callV1 F (k_XReader_takes l D tA b sh _ ep169) zd_XReader_readThings_171 (zW_o hs167 (by decide)) rfl zs_XReader_74 rfl zq_XReader_takes rfl rfl ⟨(Nat.le_of_ble_eq_true rfl), (Nat.le_of_ble_eq_true rfl)⟩ (Nat.le_of_ble_eq_true rfl) ⟨(Nat.le_of_ble_eq_true rfl), (Nat.le_of_ble_eq_true rfl)⟩ ?_
                refine zr_istore_n F zd_XReader_readThings_174 (by decide) ?_
                refine zr_iinc (v := (v3 + 1)) F zd_XReader_readThings_175 rfl rfl (by decide) ?_
                refine zr_goto F 23 zd_XReader_readThings_178 (by decide) ?_
                refine zr_loc (L' := [(0, .ref (b + v0)), (1, .int v1), (2, .int (p169.1)), (3, .int (v3 + 1))]) ⟨rfl, rfl, rfl, rfl, trivial⟩ ?_
                exact ih _ _ _ _ _ _ h hx0
def F_XReader_readThings (sh : zSh) (mm : zMem) (o : Nat) (x0_ : Int32) : Option zMem := zoS (sh o) 7 (fun le2 => Option.bind (F_XReader_need sh mm o 91) (fun p3 => zoS (sh o) 7 (fun le5 => Option.bind (F_XReader_sees sh p3 o 93) (fun p6 => (if p6.1 = 0 then Option.bind (L_XReader_readThings_23 sh zfuel o x0_ 1 0 (p6.2)) (fun q189 => (if q189.2.2.1 = 0 then zoS (sh (q189.1)) 7 (fun le192 => Option.bind (F_XReader_need sh (q189.2.2.2.2) (q189.1) 93) (fun p193 => some p193)) else zoS (sh (q189.1)) 7 (fun le195 => Option.bind (F_XReader_sees sh (q189.2.2.2.2) (q189.1) 123) (fun p196 => (if p196.1 = 0 then zoS (sh (q189.1)) 7 (fun le199 => zoS (sh (q189.1)) 7 (fun le201 => none)) else zoS (sh (q189.1)) 7 (fun le204 => zoS (sh (q189.1)) 7 (fun le206 => none))))))) else Option.bind (L_XReader_readThings_23 sh zfuel o x0_ 0 0 (p6.2)) (fun q170 => (if q170.2.2.1 = 0 then zoS (sh (q170.1)) 7 (fun le173 => Option.bind (F_XReader_need sh (q170.2.2.2.2) (q170.1) 93) (fun p174 => some p174)) else zoS (sh (q170.1)) 7 (fun le176 => Option.bind (F_XReader_sees sh (q170.2.2.2.2) (q170.1) 123) (fun p177 => (if p177.1 = 0 then zoS (sh (q170.1)) 7 (fun le180 => zoS (sh (q170.1)) 7 (fun le182 => none)) else zoS (sh (q170.1)) 7 (fun le185 => zoS (sh (q170.1)) 7 (fun le187 => none))))))))))))
set_option maxHeartbeats 4000000 in
set_option maxRecDepth 100000 in
theorem k_XReader_readThings (l : Launch) (D : va_G) (tA : Nat → ClassId) (b : Nat) (sh : zSh) (n : Nat) {mm : zMem} {o : Nat} {x0_ : Int32} {r : zMem} (h : F_XReader_readThings sh mm o x0_ = some r) : zM l D tA b zy_XReader_readThings zb_XReader_readThings 4 none 8 182 0 0 [.ref (b + o), .int x0_] (zW tA b sh mm) n (zE none (zW tA b sh r) n) := by
  unfold F_XReader_readThings at h
  refine zM_of (own := "OrreryBox$Reader") (plainFor_of_name (by decide)) rfl (Nat.le_of_ble_eq_true rfl) (fun p e s m below meth c F hr hin hH => ?_)
  refine zr_aload_n F zd_XReader_readThings_0 rfl ?_
  refine zr_bipushv (v := 91) F zd_XReader_readThings_1 (by decide) ?_
  obtain ⟨le2, hs1, h⟩ := zoS_s h
  obtain ⟨p3, ep3, h⟩ := zoB_s h
  refine zr_callV0 F (k_XReader_need l D tA b sh _ ep3) zd_XReader_readThings_3 (zW_o hs1 (by decide)) rfl zs_XReader_45 rfl zq_XReader_need rfl rfl ⟨(Nat.le_of_ble_eq_true rfl), (Nat.le_of_ble_eq_true rfl)⟩ (Nat.le_of_ble_eq_true rfl) ⟨(Nat.le_of_ble_eq_true rfl), (Nat.le_of_ble_eq_true rfl)⟩ ?_
  refine zr_aload_n F zd_XReader_readThings_6 rfl ?_
  refine zr_bipushv (v := 93) F zd_XReader_readThings_7 (by decide) ?_
  obtain ⟨le5, hs4, h⟩ := zoS_s h
  obtain ⟨p6, ep6, h⟩ := zoB_s h
  refine zr_callV1 F (k_XReader_sees l D tA b sh _ ep6) zd_XReader_readThings_9 (zW_o hs4 (by decide)) rfl zs_XReader_49 rfl zq_XReader_sees rfl rfl ⟨(Nat.le_of_ble_eq_true rfl), (Nat.le_of_ble_eq_true rfl)⟩ (Nat.le_of_ble_eq_true rfl) ⟨(Nat.le_of_ble_eq_true rfl), (Nat.le_of_ble_eq_true rfl)⟩ ?_
  refine zr_if_ne F 19 zd_XReader_readThings_12 (by decide) (fun hb7 => ?_) (fun hb7 => ?_)
  ·
    replace h := (if_neg hb7).symm.trans h
    refine zr_pcn 19 rfl ?_
    refine zr_iconstv (v := 0) F zd_XReader_readThings_19 (by decide) ?_
    refine zr_istore_n F zd_XReader_readThings_20 (by decide) ?_
    refine zr_iconstv (v := 0) F zd_XReader_readThings_21 (by decide) ?_
    refine zr_istore_n F zd_XReader_readThings_22 (by decide) ?_
    obtain ⟨q170, eq170, h⟩ := zoB_s h
    refine zr_loc (L' := [(0, .ref (b + o)), (1, .int x0_), (2, .int 0), (3, .int 0)]) ⟨rfl, rfl, rfl, rfl, trivial⟩ ?_
    refine lp_XReader_readThings_23 F _ _ _ _ _ _ _ eq170 ?_
    ·
      refine zr_iload_n F zd_XReader_readThings_181 rfl ?_
      refine zr_if_eq F 207 zd_XReader_readThings_182 (by decide) (fun hb171 => ?_) (fun hb171 => ?_)
      ·
        replace h := (if_pos hb171).symm.trans h
        refine zr_aload_n F zd_XReader_readThings_207 rfl ?_
        refine zr_pcn 208 rfl ?_
        refine zr_bipushv (v := 93) F zd_XReader_readThings_208 (by decide) ?_
        obtain ⟨le173, hs172, h⟩ := zoS_s h
        obtain ⟨p174, ep174, h⟩ := zoB_s h
        refine zr_callV0 F (k_XReader_need l D tA b sh _ ep174) zd_XReader_readThings_210 (zW_o hs172 (by decide)) rfl zs_XReader_45 rfl zq_XReader_need rfl rfl ⟨(Nat.le_of_ble_eq_true rfl), (Nat.le_of_ble_eq_true rfl)⟩ (Nat.le_of_ble_eq_true rfl) ⟨(Nat.le_of_ble_eq_true rfl), (Nat.le_of_ble_eq_true rfl)⟩ ?_
        obtain rfl := Option.some.inj h
        exact zr_vret F hr zd_XReader_readThings_213 (Nat.le_of_ble_eq_true rfl) (Nat.le_of_ble_eq_true rfl) ⟨rfl, rfl, rfl⟩
      ·
        replace h := (if_neg hb171).symm.trans h
        refine zr_aload_n F zd_XReader_readThings_185 rfl ?_
        refine zr_aload_n F zd_XReader_readThings_186 rfl ?_
        refine zr_bipushv (v := 123) F zd_XReader_readThings_187 (by decide) ?_
        obtain ⟨le176, hs175, h⟩ := zoS_s h
        obtain ⟨p177, ep177, h⟩ := zoB_s h
        refine zr_callV1 F (k_XReader_sees l D tA b sh _ ep177) zd_XReader_readThings_189 (zW_o hs175 (by decide)) rfl zs_XReader_49 rfl zq_XReader_sees rfl rfl ⟨(Nat.le_of_ble_eq_true rfl), (Nat.le_of_ble_eq_true rfl)⟩ (Nat.le_of_ble_eq_true rfl) ⟨(Nat.le_of_ble_eq_true rfl), (Nat.le_of_ble_eq_true rfl)⟩ ?_
        refine zr_if_eq F 199 zd_XReader_readThings_192 (by decide) (fun hb178 => ?_) (fun hb178 => ?_)
        ·
          replace h := (if_pos hb178).symm.trans h
          refine zr_pcn 199 rfl ?_
          refine zr_iconstv (v := 1) F zd_XReader_readThings_199 (by decide) ?_
          refine zr_aload_n F zd_XReader_readThings_200 rfl ?_
          obtain ⟨le180, hs179, h⟩ := zoS_s h
          refine zr_get F 7 5 zd_XReader_readThings_201 (zW_o hs179 (by decide)) rfl (by decide) zw_53 rfl (by rfl) ?_
          obtain ⟨le182, hs181, h⟩ := zoS_s h
          cases h
        ·
          replace h := (if_neg hb178).symm.trans h
          refine zr_iconstv (v := 3) F zd_XReader_readThings_195 (by decide) ?_
          refine zr_goto F 200 zd_XReader_readThings_196 (by decide) ?_
          refine zr_aload_n F zd_XReader_readThings_200 rfl ?_
          obtain ⟨le185, hs184, h⟩ := zoS_s h
          refine zr_get F 7 5 zd_XReader_readThings_201 (zW_o hs184 (by decide)) rfl (by decide) zw_53 rfl (by rfl) ?_
          refine zr_pcn 204 rfl ?_
          obtain ⟨le187, hs186, h⟩ := zoS_s h
          cases h
  ·
    replace h := (if_pos hb7).symm.trans h
    refine zr_iconstv (v := 1) F zd_XReader_readThings_15 (by decide) ?_
    refine zr_goto F 20 zd_XReader_readThings_16 (by decide) ?_
    refine zr_istore_n F zd_XReader_readThings_20 (by decide) ?_
    refine zr_iconstv (v := 0) F zd_XReader_readThings_21 (by decide) ?_
    refine zr_istore_n F zd_XReader_readThings_22 (by decide) ?_
    obtain ⟨q189, eq189, h⟩ := zoB_s h
    refine zr_loc (L' := [(0, .ref (b + o)), (1, .int x0_), (2, .int 1), (3, .int 0)]) ⟨rfl, rfl, rfl, rfl, trivial⟩ ?_
    refine lp_XReader_readThings_23 F _ _ _ _ _ _ _ eq189 ?_
    ·
      refine zr_iload_n F zd_XReader_readThings_181 rfl ?_
      refine zr_if_eq F 207 zd_XReader_readThings_182 (by decide) (fun hb190 => ?_) (fun hb190 => ?_)
      ·
        replace h := (if_pos hb190).symm.trans h
        refine zr_pcn 207 rfl ?_
        refine zr_aload_n F zd_XReader_readThings_207 rfl ?_
        refine zr_bipushv (v := 93) F zd_XReader_readThings_208 (by decide) ?_
        obtain ⟨le192, hs191, h⟩ := zoS_s h
        obtain ⟨p193, ep193, h⟩ := zoB_s h
        refine zr_callV0 F (k_XReader_need l D tA b sh _ ep193) zd_XReader_readThings_210 (zW_o hs191 (by decide)) rfl zs_XReader_45 rfl zq_XReader_need rfl rfl ⟨(Nat.le_of_ble_eq_true rfl), (Nat.le_of_ble_eq_true rfl)⟩ (Nat.le_of_ble_eq_true rfl) ⟨(Nat.le_of_ble_eq_true rfl), (Nat.le_of_ble_eq_true rfl)⟩ ?_
        obtain rfl := Option.some.inj h
        exact zr_vret F hr zd_XReader_readThings_213 (Nat.le_of_ble_eq_true rfl) (Nat.le_of_ble_eq_true rfl) ⟨rfl, rfl, rfl⟩
      ·
        replace h := (if_neg hb190).symm.trans h
        refine zr_aload_n F zd_XReader_readThings_185 rfl ?_
        refine zr_aload_n F zd_XReader_readThings_186 rfl ?_
        refine zr_bipushv (v := 123) F zd_XReader_readThings_187 (by decide) ?_
        obtain ⟨le195, hs194, h⟩ := zoS_s h
        obtain ⟨p196, ep196, h⟩ := zoB_s h
        refine zr_callV1 F (k_XReader_sees l D tA b sh _ ep196) zd_XReader_readThings_189 (zW_o hs194 (by decide)) rfl zs_XReader_49 rfl zq_XReader_sees rfl rfl ⟨(Nat.le_of_ble_eq_true rfl), (Nat.le_of_ble_eq_true rfl)⟩ (Nat.le_of_ble_eq_true rfl) ⟨(Nat.le_of_ble_eq_true rfl), (Nat.le_of_ble_eq_true rfl)⟩ ?_
        refine zr_pcn 192 rfl ?_
        refine zr_if_eq F 199 zd_XReader_readThings_192 (by decide) (fun hb197 => ?_) (fun hb197 => ?_)
        ·
          replace h := (if_pos hb197).symm.trans h
          refine zr_iconstv (v := 1) F zd_XReader_readThings_199 (by decide) ?_
          refine zr_aload_n F zd_XReader_readThings_200 rfl ?_
          obtain ⟨le199, hs198, h⟩ := zoS_s h
          refine zr_get F 7 5 zd_XReader_readThings_201 (zW_o hs198 (by decide)) rfl (by decide) zw_53 rfl (by rfl) ?_
          obtain ⟨le201, hs200, h⟩ := zoS_s h
          cases h
        ·
          replace h := (if_neg hb197).symm.trans h
          refine zr_iconstv (v := 3) F zd_XReader_readThings_195 (by decide) ?_
          refine zr_goto F 200 zd_XReader_readThings_196 (by decide) ?_
          refine zr_aload_n F zd_XReader_readThings_200 rfl ?_
          refine zr_pcn 201 rfl ?_
          obtain ⟨le204, hs203, h⟩ := zoS_s h
          refine zr_get F 7 5 zd_XReader_readThings_201 (zW_o hs203 (by decide)) rfl (by decide) zw_53 rfl (by rfl) ?_
          obtain ⟨le206, hs205, h⟩ := zoS_s h
          cases h
def L_T_XReader_readThings_23 (sh : zSh) (fuel : Nat) (v0 : Nat) (v1 : Int32) (v2 : Int32) (v3 : Int32) (mm : zMem) : Option (Nat × Nat × Int32 × Int32 × Int32 × zMem) := match fuel with
  | 0 => none
  | fu + 1 => (if (v1 : Int32) < 0 ∨ 5 ≤ (v1 : Int32).toNatClampNeg then none else (if (zliI (v1 : Int32).toNatClampNeg) ≤ v3 then some (1, v0, v1, v2, v3, mm) else (if v2 = 0 then some (1, v0, v1, v2, v3, mm) else zoS (sh v0) 7 (fun le12 => zoX (F_XReader_need sh mm v0 123) (Option.bind (T_XReader_need sh mm v0 123) (fun mq14 => some (0, (0 : Nat), (0 : Int32), (0 : Int32), (0 : Int32), mq14))) (fun p13 => (if v1 = 0 then zoS (sh v0) 7 (fun le17 => Option.bind (p13.2.2 v0 7) (fun a18 => zoS (sh a18) 8 (fun le20 => Option.bind (p13.2.2 a18 1) (fun a21 => zoR (sh a21) (fun t25 le23 => if (v3 : Int32) < 0 ∨ le23 ≤ (v3 : Int32).toNatClampNeg then none else Option.bind (p13.2.2 a21 (v3 : Int32).toNatClampNeg) (fun a26 => zoS (sh v0) 7 (fun le28 => zoX (F_XReader_readTexture sh p13 v0 a26) (Option.bind (T_XReader_readTexture sh p13 v0 a26) (fun mq30 => some (0, (0 : Nat), (0 : Int32), (0 : Int32), (0 : Int32), mq30))) (fun p29 => zoS (sh v0) 7 (fun le32 => zoX (F_XReader_need sh p29 v0 125) (Option.bind (T_XReader_need sh p29 v0 125) (fun mq34 => some (0, (0 : Nat), (0 : Int32), (0 : Int32), (0 : Int32), mq34))) (fun p33 => zoS (sh v0) 7 (fun le36 => Option.bind (p33.2.2 v0 7) (fun a37 => zoS (sh a37) 8 (fun le39 => Option.bind (p33.2.2 a37 0) (fun a40 => zoL (v3 + 1) (fun x41 => zoS (sh a40) 100 (fun le43 => if (v1 : Int32) < 0 ∨ le43 ≤ (v1 : Int32).toNatClampNeg then none else zoL (mI p33 a40 (v1 : Int32).toNatClampNeg x41) (fun mm45 => zoS (sh v0) 7 (fun le47 => Option.bind (F_XReader_takes sh mm45 v0 44) (fun p48 => L_T_XReader_readThings_23 sh fu v0 v1 (p48.1) (v3 + 1) (p48.2)))))))))))))))))))) else (if v1 = 1 then zoS (sh v0) 7 (fun le50 => Option.bind (p13.2.2 v0 7) (fun a51 => zoS (sh a51) 8 (fun le53 => Option.bind (p13.2.2 a51 2) (fun a54 => zoR (sh a54) (fun t58 le56 => if (v3 : Int32) < 0 ∨ le56 ≤ (v3 : Int32).toNatClampNeg then none else Option.bind (p13.2.2 a54 (v3 : Int32).toNatClampNeg) (fun a59 => zoS (sh v0) 7 (fun le61 => zoX (F_XReader_readMaterial sh p13 v0 a59) (Option.bind (T_XReader_readMaterial sh p13 v0 a59) (fun mq63 => some (0, (0 : Nat), (0 : Int32), (0 : Int32), (0 : Int32), mq63))) (fun p62 => zoS (sh v0) 7 (fun le65 => zoX (F_XReader_need sh p62 v0 125) (Option.bind (T_XReader_need sh p62 v0 125) (fun mq67 => some (0, (0 : Nat), (0 : Int32), (0 : Int32), (0 : Int32), mq67))) (fun p66 => zoS (sh v0) 7 (fun le69 => Option.bind (p66.2.2 v0 7) (fun a70 => zoS (sh a70) 8 (fun le72 => Option.bind (p66.2.2 a70 0) (fun a73 => zoL (v3 + 1) (fun x74 => zoS (sh a73) 100 (fun le76 => if (v1 : Int32) < 0 ∨ le76 ≤ (v1 : Int32).toNatClampNeg then none else zoL (mI p66 a73 (v1 : Int32).toNatClampNeg x74) (fun mm78 => zoS (sh v0) 7 (fun le80 => Option.bind (F_XReader_takes sh mm78 v0 44) (fun p81 => L_T_XReader_readThings_23 sh fu v0 v1 (p81.1) (v3 + 1) (p81.2)))))))))))))))))))) else (if v1 = 2 then zoS (sh v0) 7 (fun le83 => Option.bind (p13.2.2 v0 7) (fun a84 => zoS (sh a84) 8 (fun le86 => Option.bind (p13.2.2 a84 3) (fun a87 => zoR (sh a87) (fun t91 le89 => if (v3 : Int32) < 0 ∨ le89 ≤ (v3 : Int32).toNatClampNeg then none else Option.bind (p13.2.2 a87 (v3 : Int32).toNatClampNeg) (fun a92 => zoS (sh v0) 7 (fun le94 => zoX (F_XReader_readMesh sh p13 v0 a92) (Option.bind (T_XReader_readMesh sh p13 v0 a92) (fun mq96 => some (0, (0 : Nat), (0 : Int32), (0 : Int32), (0 : Int32), mq96))) (fun p95 => zoS (sh v0) 7 (fun le98 => zoX (F_XReader_need sh p95 v0 125) (Option.bind (T_XReader_need sh p95 v0 125) (fun mq100 => some (0, (0 : Nat), (0 : Int32), (0 : Int32), (0 : Int32), mq100))) (fun p99 => zoS (sh v0) 7 (fun le102 => Option.bind (p99.2.2 v0 7) (fun a103 => zoS (sh a103) 8 (fun le105 => Option.bind (p99.2.2 a103 0) (fun a106 => zoL (v3 + 1) (fun x107 => zoS (sh a106) 100 (fun le109 => if (v1 : Int32) < 0 ∨ le109 ≤ (v1 : Int32).toNatClampNeg then none else zoL (mI p99 a106 (v1 : Int32).toNatClampNeg x107) (fun mm111 => zoS (sh v0) 7 (fun le113 => Option.bind (F_XReader_takes sh mm111 v0 44) (fun p114 => L_T_XReader_readThings_23 sh fu v0 v1 (p114.1) (v3 + 1) (p114.2)))))))))))))))))))) else (if v1 = 3 then zoS (sh v0) 7 (fun le116 => Option.bind (p13.2.2 v0 7) (fun a117 => zoS (sh a117) 8 (fun le119 => Option.bind (p13.2.2 a117 4) (fun a120 => zoR (sh a120) (fun t124 le122 => if (v3 : Int32) < 0 ∨ le122 ≤ (v3 : Int32).toNatClampNeg then none else Option.bind (p13.2.2 a120 (v3 : Int32).toNatClampNeg) (fun a125 => zoS (sh v0) 7 (fun le127 => zoX (F_XReader_readNode sh p13 v0 a125 v3) (Option.bind (T_XReader_readNode sh p13 v0 a125 v3) (fun mq129 => some (0, (0 : Nat), (0 : Int32), (0 : Int32), (0 : Int32), mq129))) (fun p128 => zoS (sh v0) 7 (fun le131 => zoX (F_XReader_need sh p128 v0 125) (Option.bind (T_XReader_need sh p128 v0 125) (fun mq133 => some (0, (0 : Nat), (0 : Int32), (0 : Int32), (0 : Int32), mq133))) (fun p132 => zoS (sh v0) 7 (fun le135 => Option.bind (p132.2.2 v0 7) (fun a136 => zoS (sh a136) 8 (fun le138 => Option.bind (p132.2.2 a136 0) (fun a139 => zoL (v3 + 1) (fun x140 => zoS (sh a139) 100 (fun le142 => if (v1 : Int32) < 0 ∨ le142 ≤ (v1 : Int32).toNatClampNeg then none else zoL (mI p132 a139 (v1 : Int32).toNatClampNeg x140) (fun mm144 => zoS (sh v0) 7 (fun le146 => Option.bind (F_XReader_takes sh mm144 v0 44) (fun p147 => L_T_XReader_readThings_23 sh fu v0 v1 (p147.1) (v3 + 1) (p147.2)))))))))))))))))))) else zoS (sh v0) 7 (fun le149 => Option.bind (p13.2.2 v0 7) (fun a150 => zoS (sh a150) 8 (fun le152 => Option.bind (p13.2.2 a150 5) (fun a153 => zoR (sh a153) (fun t157 le155 => if (v3 : Int32) < 0 ∨ le155 ≤ (v3 : Int32).toNatClampNeg then none else Option.bind (p13.2.2 a153 (v3 : Int32).toNatClampNeg) (fun a158 => zoS (sh v0) 7 (fun le160 => zoX (F_XReader_readTrack sh p13 v0 a158) (Option.bind (T_XReader_readTrack sh p13 v0 a158) (fun mq162 => some (0, (0 : Nat), (0 : Int32), (0 : Int32), (0 : Int32), mq162))) (fun p161 => zoS (sh v0) 7 (fun le164 => zoX (F_XReader_need sh p161 v0 125) (Option.bind (T_XReader_need sh p161 v0 125) (fun mq166 => some (0, (0 : Nat), (0 : Int32), (0 : Int32), (0 : Int32), mq166))) (fun p165 => zoS (sh v0) 7 (fun le168 => Option.bind (p165.2.2 v0 7) (fun a169 => zoS (sh a169) 8 (fun le171 => Option.bind (p165.2.2 a169 0) (fun a172 => zoL (v3 + 1) (fun x173 => zoS (sh a172) 100 (fun le175 => if (v1 : Int32) < 0 ∨ le175 ≤ (v1 : Int32).toNatClampNeg then none else zoL (mI p165 a172 (v1 : Int32).toNatClampNeg x173) (fun mm177 => zoS (sh v0) 7 (fun le179 => Option.bind (F_XReader_takes sh mm177 v0 44) (fun p180 => L_T_XReader_readThings_23 sh fu v0 v1 (p180.1) (v3 + 1) (p180.2)))))))))))))))))))))))))))))
set_option maxHeartbeats 4000000 in
set_option maxRecDepth 100000 in
theorem lp_T_XReader_readThings_23 {p : Program} {l : Launch} {e : Env} {s : State} {m : MethodId} {args : Array Value} {below : List Frame} {meth : Method} {c : Code} {D : va_G} {tA : Nat → ClassId} {b n : Nat} {fT : zV} {nT : Nat} {sh : zSh} (F : zF p s m args meth c zb_XReader_readThings 4 "OrreryBox$Reader" D tA b) (hl : l.stackTraces = false) (hno : c.exceptionTable.toList = []) : ∀ (fuel : Nat) (v0 : Nat) (v1 : Int32) (v2 : Int32) (v3 : Int32) (mm : zMem) (r : Nat × Nat × Int32 × Int32 × Int32 × zMem), L_T_XReader_readThings_23 sh fuel v0 v1 v2 v3 mm = some r → (r.1 = 1 → Z p l e { frames := 10, cells := 1, slots := 6, locals := 190 } s m args below meth c D b 4 (zTQ below D b "java/lang/IllegalArgumentException" fT nT args s 1 6) (zW tA b sh r.2.2.2.2.2) n 0 0 181 [(0, .ref (b + (r.2.1))), (1, .int (r.2.2.1)), (2, .int (r.2.2.2.1)), (3, .int (r.2.2.2.2.1))] []) → (r.1 = 0 → zW tA b sh r.2.2.2.2.2 = fT ∧ n + 1 = nT) → Z p l e { frames := 10, cells := 1, slots := 6, locals := 190 } s m args below meth c D b 4 (zTQ below D b "java/lang/IllegalArgumentException" fT nT args s 1 6) (zW tA b sh mm) n 0 0 23 [(0, .ref (b + v0)), (1, .int v1), (2, .int v2), (3, .int v3)] [] := by
  intro fuel
  induction fuel with
  | zero =>
    intro v0 v1 v2 v3 mm r h
    cases h
  | succ fu ih =>
    intro v0 v1 v2 v3 mm r h hx0 hp
    rw [L_T_XReader_readThings_23] at h
    refine zr_iload_n F zd_XReader_readThings_23 rfl ?_
    refine zr_gl F zd_XReader_readThings_24 zw_1223 (fun tl hT => ?_)
    refine zr_iload_n F zd_XReader_readThings_27 rfl ?_
    obtain ⟨hi8, h⟩ := zoI_s h
    refine zr_ti (v := .int (zliI (v1 : Int32).toNatClampNeg)) F zd_XReader_readThings_28 hT hi8 rfl ?_
    refine zr_pcn 29 rfl ?_
    refine zr_icmp_ge F 181 zd_XReader_readThings_29 (by decide) (fun hb9 => ?_) (fun hb9 => ?_)
    ·
      replace h := (if_pos hb9).symm.trans h
      obtain rfl := Option.some.inj h
      refine zr_loc (L' := [(0, .ref (b + v0)), (1, .int v1), (2, .int v2), (3, .int v3)]) ⟨rfl, rfl, rfl, rfl, trivial⟩ ?_
      exact hx0 rfl
    ·
      replace h := (if_neg hb9).symm.trans h
      refine zr_iload_n F zd_XReader_readThings_32 rfl ?_
      refine zr_if_eq F 181 zd_XReader_readThings_33 (by decide) (fun hb10 => ?_) (fun hb10 => ?_)
      ·
        replace h := (if_pos hb10).symm.trans h
        obtain rfl := Option.some.inj h
        refine zr_loc (L' := [(0, .ref (b + v0)), (1, .int v1), (2, .int v2), (3, .int v3)]) ⟨rfl, rfl, rfl, rfl, trivial⟩ ?_
        exact hx0 rfl
      ·
        replace h := (if_neg hb10).symm.trans h
        refine zr_aload_n F zd_XReader_readThings_36 rfl ?_
        refine zr_bipushv (v := 123) F zd_XReader_readThings_37 (by decide) ?_
        obtain ⟨le12, hs11, h⟩ := zoS_s h
        cases ep13 : F_XReader_need sh mm v0 123 with
        | none =>
          rw [ep13] at h
          dsimp only [zoX] at h
          obtain ⟨mq14, emq14, h⟩ := zoB_s h
          obtain rfl := Option.some.inj h
          obtain ⟨ef, en⟩ := hp rfl
          subst ef
          subst en
          exact zr_thrV F hno (kT_XReader_need l D tA b sh _ hl emq14) zd_XReader_readThings_39 (zW_o hs11 (by decide)) rfl zs_XReader_45 rfl zq_XReader_need rfl rfl ⟨(Nat.le_of_ble_eq_true rfl), (Nat.le_of_ble_eq_true rfl)⟩ (Nat.le_of_ble_eq_true rfl) ⟨(Nat.le_of_ble_eq_true rfl), (Nat.le_of_ble_eq_true rfl)⟩ ⟨(Nat.le_of_ble_eq_true rfl), (Nat.le_of_ble_eq_true rfl)⟩
        | some p13 =>
          rw [ep13] at h
          dsimp only [zoX] at h
          refine zr_callV0 F (k_XReader_need l D tA b sh _ ep13) zd_XReader_readThings_39 (zW_o hs11 (by decide)) rfl zs_XReader_45 rfl zq_XReader_need rfl rfl ⟨(Nat.le_of_ble_eq_true rfl), (Nat.le_of_ble_eq_true rfl)⟩ (Nat.le_of_ble_eq_true rfl) ⟨(Nat.le_of_ble_eq_true rfl), (Nat.le_of_ble_eq_true rfl)⟩ ?_
          refine zr_iload_n F zd_XReader_readThings_42 rfl ?_
          by_cases hb15_0 : v1 = 0
          ·
            rw [if_pos hb15_0] at h
            refine zr_tableIn F 72 zd_XReader_readThings_43 (by rw [hb15_0]; decide) (by rw [hb15_0]; decide) (by rw [hb15_0]; rfl) (by decide) ?_
            refine zr_pcn 72 rfl ?_
            refine zr_aload_n F zd_XReader_readThings_72 rfl ?_
            refine zr_aload_n F zd_XReader_readThings_73 rfl ?_
            obtain ⟨le17, hs16, h⟩ := zoS_s h
            obtain ⟨a18, ea18, h⟩ := zoB_s h
            refine zr_get F 7 7 zd_XReader_readThings_74 (zW_o hs16 (by decide)) rfl (by decide) zw_55 rfl (by rfl) ?_
            refine zr_tor ea18 ?_
            obtain ⟨le20, hs19, h⟩ := zoS_s h
            obtain ⟨a21, ea21, h⟩ := zoB_s h
            refine zr_get F 8 1 zd_XReader_readThings_77 (zW_o hs19 (by decide)) rfl (by decide) zw_286 rfl (by rfl) ?_
            refine zr_tor ea21 ?_
            refine zr_iload_n F zd_XReader_readThings_80 rfl ?_
            obtain ⟨t25, le23, hs22, h⟩ := zoR_s h
            obtain ⟨hi24, h⟩ := zoI_s h
            obtain ⟨a26, ea26, h⟩ := zoB_s h
            refine zr_aaldW F zd_XReader_readThings_81 hs22 hi24 ea26 ?_
            obtain ⟨le28, hs27, h⟩ := zoS_s h
            cases ep29 : F_XReader_readTexture sh p13 v0 a26 with
            | none =>
              rw [ep29] at h
              dsimp only [zoX] at h
              obtain ⟨mq30, emq30, h⟩ := zoB_s h
              obtain rfl := Option.some.inj h
              obtain ⟨ef, en⟩ := hp rfl
              subst ef
              subst en
              exact zr_thrV F hno (kT_XReader_readTexture l D tA b sh _ hl emq30) zd_XReader_readThings_82 (zW_o hs27 (by decide)) rfl zs_XReader_101 rfl zq_XReader_readTexture rfl rfl ⟨(Nat.le_of_ble_eq_true rfl), (Nat.le_of_ble_eq_true rfl)⟩ (Nat.le_of_ble_eq_true rfl) ⟨(Nat.le_of_ble_eq_true rfl), (Nat.le_of_ble_eq_true rfl)⟩ ⟨(Nat.le_of_ble_eq_true rfl), (Nat.le_of_ble_eq_true rfl)⟩
            | some p29 =>
              rw [ep29] at h
              dsimp only [zoX] at h
              refine zr_callV0 F (k_XReader_readTexture l D tA b sh _ ep29) zd_XReader_readThings_82 (zW_o hs27 (by decide)) rfl zs_XReader_101 rfl zq_XReader_readTexture rfl rfl ⟨(Nat.le_of_ble_eq_true rfl), (Nat.le_of_ble_eq_true rfl)⟩ (Nat.le_of_ble_eq_true rfl) ⟨(Nat.le_of_ble_eq_true rfl), (Nat.le_of_ble_eq_true rfl)⟩ ?_
              refine zr_goto F 150 zd_XReader_readThings_85 (by decide) ?_
              refine zr_pcn 150 rfl ?_
              refine zr_aload_n F zd_XReader_readThings_150 rfl ?_
              refine zr_bipushv (v := 125) F zd_XReader_readThings_151 (by decide) ?_
              obtain ⟨le32, hs31, h⟩ := zoS_s h
              cases ep33 : F_XReader_need sh p29 v0 125 with
              | none =>
                rw [ep33] at h
                dsimp only [zoX] at h
                obtain ⟨mq34, emq34, h⟩ := zoB_s h
                obtain rfl := Option.some.inj h
                obtain ⟨ef, en⟩ := hp rfl
                subst ef
                subst en
                exact zr_thrV F hno (kT_XReader_need l D tA b sh _ hl emq34) zd_XReader_readThings_153 (zW_o hs31 (by decide)) rfl zs_XReader_45 rfl zq_XReader_need rfl rfl ⟨(Nat.le_of_ble_eq_true rfl), (Nat.le_of_ble_eq_true rfl)⟩ (Nat.le_of_ble_eq_true rfl) ⟨(Nat.le_of_ble_eq_true rfl), (Nat.le_of_ble_eq_true rfl)⟩ ⟨(Nat.le_of_ble_eq_true rfl), (Nat.le_of_ble_eq_true rfl)⟩
              | some p33 =>
                rw [ep33] at h
                dsimp only [zoX] at h
                refine zr_callV0 F (k_XReader_need l D tA b sh _ ep33) zd_XReader_readThings_153 (zW_o hs31 (by decide)) rfl zs_XReader_45 rfl zq_XReader_need rfl rfl ⟨(Nat.le_of_ble_eq_true rfl), (Nat.le_of_ble_eq_true rfl)⟩ (Nat.le_of_ble_eq_true rfl) ⟨(Nat.le_of_ble_eq_true rfl), (Nat.le_of_ble_eq_true rfl)⟩ ?_
                refine zr_aload_n F zd_XReader_readThings_156 rfl ?_
                obtain ⟨le36, hs35, h⟩ := zoS_s h
                obtain ⟨a37, ea37, h⟩ := zoB_s h
                refine zr_get F 7 7 zd_XReader_readThings_157 (zW_o hs35 (by decide)) rfl (by decide) zw_55 rfl (by rfl) ?_
                refine zr_tor ea37 ?_
                obtain ⟨le39, hs38, h⟩ := zoS_s h
                obtain ⟨a40, ea40, h⟩ := zoB_s h
                refine zr_get F 8 0 zd_XReader_readThings_160 (zW_o hs38 (by decide)) rfl (by decide) zw_284 rfl (by rfl) ?_
                refine zr_tor ea40 ?_
                refine zr_iload_n F zd_XReader_readThings_163 rfl ?_
                refine zr_iload_n F zd_XReader_readThings_164 rfl ?_
                refine zr_pcn 165 rfl ?_
                refine zr_iconstv (v := 1) F zd_XReader_readThings_165 (by decide) ?_
                refine zr_iadd F zd_XReader_readThings_166 ?_
                obtain ⟨x41, ex41, h⟩ := zoL_s h
                rw [← ex41]
                obtain ⟨le43, hs42, h⟩ := zoS_s h
                obtain ⟨hi44, h⟩ := zoI_s h
                refine zr_iast F zd_XReader_readThings_167 (zW_a0 hs42) hi44 ?_
                obtain ⟨mm45, emm45, h⟩ := zoL_s h
                refine zr_norm (zW tA b sh mm45) _ (by rw [emm45]; exact zW_s0 hs42) rfl ?_
                refine zr_aload_n F zd_XReader_readThings_168 rfl ?_
                refine zr_bipushv (v := 44) F zd_XReader_readThings_169 (by decide) ?_
                obtain ⟨le47, hs46, h⟩ := zoS_s h
                obtain ⟨p48, ep48, h⟩ := zoB_s h
                refine zr_callV1 F (k_XReader_takes l D tA b sh _ ep48) zd_XReader_readThings_171 (zW_o hs46 (by decide)) rfl zs_XReader_74 rfl zq_XReader_takes rfl rfl ⟨(Nat.le_of_ble_eq_true rfl), (Nat.le_of_ble_eq_true rfl)⟩ (Nat.le_of_ble_eq_true rfl) ⟨(Nat.le_of_ble_eq_true rfl), (Nat.le_of_ble_eq_true rfl)⟩ ?_
                refine zr_istore_n F zd_XReader_readThings_174 (by decide) ?_
                refine zr_iinc (v := (v3 + 1)) F zd_XReader_readThings_175 rfl rfl (by decide) ?_
                refine zr_pcn 178 rfl ?_
                refine zr_goto F 23 zd_XReader_readThings_178 (by decide) ?_
                refine zr_loc (L' := [(0, .ref (b + v0)), (1, .int v1), (2, .int (p48.1)), (3, .int (v3 + 1))]) ⟨rfl, rfl, rfl, rfl, trivial⟩ ?_
                exact ih _ _ _ _ _ _ h hx0 hp
          ·
            rw [if_neg hb15_0] at h
            by_cases hb15_1 : v1 = 1
            ·
              rw [if_pos hb15_1] at h
              refine zr_tableIn F 88 zd_XReader_readThings_43 (by rw [hb15_1]; decide) (by rw [hb15_1]; decide) (by rw [hb15_1]; rfl) (by decide) ?_
              refine zr_aload_n F zd_XReader_readThings_88 rfl ?_
              refine zr_aload_n F zd_XReader_readThings_89 rfl ?_
              obtain ⟨le50, hs49, h⟩ := zoS_s h
              obtain ⟨a51, ea51, h⟩ := zoB_s h
              refine zr_get F 7 7 zd_XReader_readThings_90 (zW_o hs49 (by decide)) rfl (by decide) zw_55 rfl (by rfl) ?_
              refine zr_tor ea51 ?_
              obtain ⟨le53, hs52, h⟩ := zoS_s h
              obtain ⟨a54, ea54, h⟩ := zoB_s h
              refine zr_get F 8 2 zd_XReader_readThings_93 (zW_o hs52 (by decide)) rfl (by decide) zw_289 rfl (by rfl) ?_
              refine zr_tor ea54 ?_
              refine zr_iload_n F zd_XReader_readThings_96 rfl ?_
              obtain ⟨t58, le56, hs55, h⟩ := zoR_s h
              obtain ⟨hi57, h⟩ := zoI_s h
              obtain ⟨a59, ea59, h⟩ := zoB_s h
              refine zr_aaldW F zd_XReader_readThings_97 hs55 hi57 ea59 ?_
              obtain ⟨le61, hs60, h⟩ := zoS_s h
              cases ep62 : F_XReader_readMaterial sh p13 v0 a59 with
              | none =>
                rw [ep62] at h
                dsimp only [zoX] at h
                obtain ⟨mq63, emq63, h⟩ := zoB_s h
                obtain rfl := Option.some.inj h
                obtain ⟨ef, en⟩ := hp rfl
                subst ef
                subst en
                exact zr_thrV F hno (kT_XReader_readMaterial l D tA b sh _ hl emq63) zd_XReader_readThings_98 (zW_o hs60 (by decide)) rfl zs_XReader_108 rfl zq_XReader_readMaterial rfl rfl ⟨(Nat.le_of_ble_eq_true rfl), (Nat.le_of_ble_eq_true rfl)⟩ (Nat.le_of_ble_eq_true rfl) ⟨(Nat.le_of_ble_eq_true rfl), (Nat.le_of_ble_eq_true rfl)⟩ ⟨(Nat.le_of_ble_eq_true rfl), (Nat.le_of_ble_eq_true rfl)⟩
              | some p62 =>
                rw [ep62] at h
                dsimp only [zoX] at h
                refine zr_callV0 F (k_XReader_readMaterial l D tA b sh _ ep62) zd_XReader_readThings_98 (zW_o hs60 (by decide)) rfl zs_XReader_108 rfl zq_XReader_readMaterial rfl rfl ⟨(Nat.le_of_ble_eq_true rfl), (Nat.le_of_ble_eq_true rfl)⟩ (Nat.le_of_ble_eq_true rfl) ⟨(Nat.le_of_ble_eq_true rfl), (Nat.le_of_ble_eq_true rfl)⟩ ?_
                refine zr_pcn 101 rfl ?_
                refine zr_goto F 150 zd_XReader_readThings_101 (by decide) ?_
                refine zr_aload_n F zd_XReader_readThings_150 rfl ?_
                refine zr_bipushv (v := 125) F zd_XReader_readThings_151 (by decide) ?_
                obtain ⟨le65, hs64, h⟩ := zoS_s h
                cases ep66 : F_XReader_need sh p62 v0 125 with
                | none =>
                  rw [ep66] at h
                  dsimp only [zoX] at h
                  obtain ⟨mq67, emq67, h⟩ := zoB_s h
                  obtain rfl := Option.some.inj h
                  obtain ⟨ef, en⟩ := hp rfl
                  subst ef
                  subst en
                  exact zr_thrV F hno (kT_XReader_need l D tA b sh _ hl emq67) zd_XReader_readThings_153 (zW_o hs64 (by decide)) rfl zs_XReader_45 rfl zq_XReader_need rfl rfl ⟨(Nat.le_of_ble_eq_true rfl), (Nat.le_of_ble_eq_true rfl)⟩ (Nat.le_of_ble_eq_true rfl) ⟨(Nat.le_of_ble_eq_true rfl), (Nat.le_of_ble_eq_true rfl)⟩ ⟨(Nat.le_of_ble_eq_true rfl), (Nat.le_of_ble_eq_true rfl)⟩
                | some p66 =>
                  rw [ep66] at h
                  dsimp only [zoX] at h
                  refine zr_callV0 F (k_XReader_need l D tA b sh _ ep66) zd_XReader_readThings_153 (zW_o hs64 (by decide)) rfl zs_XReader_45 rfl zq_XReader_need rfl rfl ⟨(Nat.le_of_ble_eq_true rfl), (Nat.le_of_ble_eq_true rfl)⟩ (Nat.le_of_ble_eq_true rfl) ⟨(Nat.le_of_ble_eq_true rfl), (Nat.le_of_ble_eq_true rfl)⟩ ?_
                  refine zr_aload_n F zd_XReader_readThings_156 rfl ?_
                  obtain ⟨le69, hs68, h⟩ := zoS_s h
                  obtain ⟨a70, ea70, h⟩ := zoB_s h
                  refine zr_get F 7 7 zd_XReader_readThings_157 (zW_o hs68 (by decide)) rfl (by decide) zw_55 rfl (by rfl) ?_
                  refine zr_tor ea70 ?_
                  obtain ⟨le72, hs71, h⟩ := zoS_s h
                  obtain ⟨a73, ea73, h⟩ := zoB_s h
                  refine zr_get F 8 0 zd_XReader_readThings_160 (zW_o hs71 (by decide)) rfl (by decide) zw_284 rfl (by rfl) ?_
                  refine zr_tor ea73 ?_
                  refine zr_iload_n F zd_XReader_readThings_163 rfl ?_
                  refine zr_pcn 164 rfl ?_
                  refine zr_iload_n F zd_XReader_readThings_164 rfl ?_
                  refine zr_iconstv (v := 1) F zd_XReader_readThings_165 (by decide) ?_
                  refine zr_iadd F zd_XReader_readThings_166 ?_
                  obtain ⟨x74, ex74, h⟩ := zoL_s h
                  rw [← ex74]
                  obtain ⟨le76, hs75, h⟩ := zoS_s h
                  obtain ⟨hi77, h⟩ := zoI_s h
                  refine zr_iast F zd_XReader_readThings_167 (zW_a0 hs75) hi77 ?_
                  obtain ⟨mm78, emm78, h⟩ := zoL_s h
                  refine zr_norm (zW tA b sh mm78) _ (by rw [emm78]; exact zW_s0 hs75) rfl ?_
                  refine zr_aload_n F zd_XReader_readThings_168 rfl ?_
                  refine zr_bipushv (v := 44) F zd_XReader_readThings_169 (by decide) ?_
                  obtain ⟨le80, hs79, h⟩ := zoS_s h
                  obtain ⟨p81, ep81, h⟩ := zoB_s h
                  refine zr_callV1 F (k_XReader_takes l D tA b sh _ ep81) zd_XReader_readThings_171 (zW_o hs79 (by decide)) rfl zs_XReader_74 rfl zq_XReader_takes rfl rfl ⟨(Nat.le_of_ble_eq_true rfl), (Nat.le_of_ble_eq_true rfl)⟩ (Nat.le_of_ble_eq_true rfl) ⟨(Nat.le_of_ble_eq_true rfl), (Nat.le_of_ble_eq_true rfl)⟩ ?_
                  refine zr_istore_n F zd_XReader_readThings_174 (by decide) ?_
                  refine zr_pcn 175 rfl ?_
                  refine zr_iinc (v := (v3 + 1)) F zd_XReader_readThings_175 rfl rfl (by decide) ?_
                  refine zr_goto F 23 zd_XReader_readThings_178 (by decide) ?_
                  refine zr_loc (L' := [(0, .ref (b + v0)), (1, .int v1), (2, .int (p81.1)), (3, .int (v3 + 1))]) ⟨rfl, rfl, rfl, rfl, trivial⟩ ?_
                  exact ih _ _ _ _ _ _ h hx0 hp
            ·
              rw [if_neg hb15_1] at h
              by_cases hb15_2 : v1 = 2
              ·
                rw [if_pos hb15_2] at h
                refine zr_tableIn F 104 zd_XReader_readThings_43 (by rw [hb15_2]; decide) (by rw [hb15_2]; decide) (by rw [hb15_2]; rfl) (by decide) ?_
                refine zr_aload_n F zd_XReader_readThings_104 rfl ?_
                refine zr_aload_n F zd_XReader_readThings_105 rfl ?_
                obtain ⟨le83, hs82, h⟩ := zoS_s h
                obtain ⟨a84, ea84, h⟩ := zoB_s h
                refine zr_get F 7 7 zd_XReader_readThings_106 (zW_o hs82 (by decide)) rfl (by decide) zw_55 rfl (by rfl) ?_
                refine zr_tor ea84 ?_
                obtain ⟨le86, hs85, h⟩ := zoS_s h
                obtain ⟨a87, ea87, h⟩ := zoB_s h
                refine zr_get F 8 3 zd_XReader_readThings_109 (zW_o hs85 (by decide)) rfl (by decide) zw_293 rfl (by rfl) ?_
                refine zr_tor ea87 ?_
                refine zr_iload_n F zd_XReader_readThings_112 rfl ?_
                obtain ⟨t91, le89, hs88, h⟩ := zoR_s h
                obtain ⟨hi90, h⟩ := zoI_s h
                obtain ⟨a92, ea92, h⟩ := zoB_s h
                refine zr_aaldW F zd_XReader_readThings_113 hs88 hi90 ea92 ?_
                refine zr_pcn 114 rfl ?_
                obtain ⟨le94, hs93, h⟩ := zoS_s h
                cases ep95 : F_XReader_readMesh sh p13 v0 a92 with
                | none =>
                  rw [ep95] at h
                  dsimp only [zoX] at h
                  obtain ⟨mq96, emq96, h⟩ := zoB_s h
                  obtain rfl := Option.some.inj h
                  obtain ⟨ef, en⟩ := hp rfl
                  subst ef
                  subst en
                  exact zr_thrV F hno (kT_XReader_readMesh l D tA b sh _ hl emq96) zd_XReader_readThings_114 (zW_o hs93 (by decide)) rfl zs_XReader_115 rfl zq_XReader_readMesh rfl rfl ⟨(Nat.le_of_ble_eq_true rfl), (Nat.le_of_ble_eq_true rfl)⟩ (Nat.le_of_ble_eq_true rfl) ⟨(Nat.le_of_ble_eq_true rfl), (Nat.le_of_ble_eq_true rfl)⟩ ⟨(Nat.le_of_ble_eq_true rfl), (Nat.le_of_ble_eq_true rfl)⟩
                | some p95 =>
                  rw [ep95] at h
                  dsimp only [zoX] at h
                  refine zr_callV0 F (k_XReader_readMesh l D tA b sh _ ep95) zd_XReader_readThings_114 (zW_o hs93 (by decide)) rfl zs_XReader_115 rfl zq_XReader_readMesh rfl rfl ⟨(Nat.le_of_ble_eq_true rfl), (Nat.le_of_ble_eq_true rfl)⟩ (Nat.le_of_ble_eq_true rfl) ⟨(Nat.le_of_ble_eq_true rfl), (Nat.le_of_ble_eq_true rfl)⟩ ?_
                  refine zr_goto F 150 zd_XReader_readThings_117 (by decide) ?_
                  refine zr_aload_n F zd_XReader_readThings_150 rfl ?_
                  refine zr_bipushv (v := 125) F zd_XReader_readThings_151 (by decide) ?_
                  obtain ⟨le98, hs97, h⟩ := zoS_s h
                  cases ep99 : F_XReader_need sh p95 v0 125 with
                  | none =>
                    rw [ep99] at h
                    dsimp only [zoX] at h
                    obtain ⟨mq100, emq100, h⟩ := zoB_s h
                    obtain rfl := Option.some.inj h
                    obtain ⟨ef, en⟩ := hp rfl
                    subst ef
                    subst en
                    exact zr_thrV F hno (kT_XReader_need l D tA b sh _ hl emq100) zd_XReader_readThings_153 (zW_o hs97 (by decide)) rfl zs_XReader_45 rfl zq_XReader_need rfl rfl ⟨(Nat.le_of_ble_eq_true rfl), (Nat.le_of_ble_eq_true rfl)⟩ (Nat.le_of_ble_eq_true rfl) ⟨(Nat.le_of_ble_eq_true rfl), (Nat.le_of_ble_eq_true rfl)⟩ ⟨(Nat.le_of_ble_eq_true rfl), (Nat.le_of_ble_eq_true rfl)⟩
                  | some p99 =>
                    rw [ep99] at h
                    dsimp only [zoX] at h
                    refine zr_callV0 F (k_XReader_need l D tA b sh _ ep99) zd_XReader_readThings_153 (zW_o hs97 (by decide)) rfl zs_XReader_45 rfl zq_XReader_need rfl rfl ⟨(Nat.le_of_ble_eq_true rfl), (Nat.le_of_ble_eq_true rfl)⟩ (Nat.le_of_ble_eq_true rfl) ⟨(Nat.le_of_ble_eq_true rfl), (Nat.le_of_ble_eq_true rfl)⟩ ?_
                    refine zr_aload_n F zd_XReader_readThings_156 rfl ?_
                    obtain ⟨le102, hs101, h⟩ := zoS_s h
                    obtain ⟨a103, ea103, h⟩ := zoB_s h
                    refine zr_get F 7 7 zd_XReader_readThings_157 (zW_o hs101 (by decide)) rfl (by decide) zw_55 rfl (by rfl) ?_
                    refine zr_tor ea103 ?_
                    obtain ⟨le105, hs104, h⟩ := zoS_s h
                    obtain ⟨a106, ea106, h⟩ := zoB_s h
                    refine zr_get F 8 0 zd_XReader_readThings_160 (zW_o hs104 (by decide)) rfl (by decide) zw_284 rfl (by rfl) ?_
                    refine zr_tor ea106 ?_
                    refine zr_pcn 163 rfl ?_
                    refine zr_iload_n F zd_XReader_readThings_163 rfl ?_
                    refine zr_iload_n F zd_XReader_readThings_164 rfl ?_
                    refine zr_iconstv (v := 1) F zd_XReader_readThings_165 (by decide) ?_
                    refine zr_iadd F zd_XReader_readThings_166 ?_
                    obtain ⟨x107, ex107, h⟩ := zoL_s h
                    rw [← ex107]
                    obtain ⟨le109, hs108, h⟩ := zoS_s h
                    obtain ⟨hi110, h⟩ := zoI_s h
                    refine zr_iast F zd_XReader_readThings_167 (zW_a0 hs108) hi110 ?_
                    obtain ⟨mm111, emm111, h⟩ := zoL_s h
                    refine zr_norm (zW tA b sh mm111) _ (by rw [emm111]; exact zW_s0 hs108) rfl ?_
                    refine zr_aload_n F zd_XReader_readThings_168 rfl ?_
                    refine zr_bipushv (v := 44) F zd_XReader_readThings_169 (by decide) ?_
                    obtain ⟨le113, hs112, h⟩ := zoS_s h
                    obtain ⟨p114, ep114, h⟩ := zoB_s h
                    refine zr_callV1 F (k_XReader_takes l D tA b sh _ ep114) zd_XReader_readThings_171 (zW_o hs112 (by decide)) rfl zs_XReader_74 rfl zq_XReader_takes rfl rfl ⟨(Nat.le_of_ble_eq_true rfl), (Nat.le_of_ble_eq_true rfl)⟩ (Nat.le_of_ble_eq_true rfl) ⟨(Nat.le_of_ble_eq_true rfl), (Nat.le_of_ble_eq_true rfl)⟩ ?_
                    refine zr_pcn 174 rfl ?_
                    refine zr_istore_n F zd_XReader_readThings_174 (by decide) ?_
                    refine zr_iinc (v := (v3 + 1)) F zd_XReader_readThings_175 rfl rfl (by decide) ?_
                    refine zr_goto F 23 zd_XReader_readThings_178 (by decide) ?_
                    refine zr_loc (L' := [(0, .ref (b + v0)), (1, .int v1), (2, .int (p114.1)), (3, .int (v3 + 1))]) ⟨rfl, rfl, rfl, rfl, trivial⟩ ?_
                    exact ih _ _ _ _ _ _ h hx0 hp
              ·
                rw [if_neg hb15_2] at h
                by_cases hb15_3 : v1 = 3
                ·
                  rw [if_pos hb15_3] at h
                  refine zr_tableIn F 120 zd_XReader_readThings_43 (by rw [hb15_3]; decide) (by rw [hb15_3]; decide) (by rw [hb15_3]; rfl) (by decide) ?_
                  refine zr_aload_n F zd_XReader_readThings_120 rfl ?_
                  refine zr_aload_n F zd_XReader_readThings_121 rfl ?_
                  obtain ⟨le116, hs115, h⟩ := zoS_s h
                  obtain ⟨a117, ea117, h⟩ := zoB_s h
                  refine zr_get F 7 7 zd_XReader_readThings_122 (zW_o hs115 (by decide)) rfl (by decide) zw_55 rfl (by rfl) ?_
                  refine zr_tor ea117 ?_
                  obtain ⟨le119, hs118, h⟩ := zoS_s h
                  obtain ⟨a120, ea120, h⟩ := zoB_s h
                  refine zr_get F 8 4 zd_XReader_readThings_125 (zW_o hs118 (by decide)) rfl (by decide) zw_297 rfl (by rfl) ?_
                  refine zr_tor ea120 ?_
                  refine zr_iload_n F zd_XReader_readThings_128 rfl ?_
                  refine zr_pcn 129 rfl ?_
                  obtain ⟨t124, le122, hs121, h⟩ := zoR_s h
                  obtain ⟨hi123, h⟩ := zoI_s h
                  obtain ⟨a125, ea125, h⟩ := zoB_s h
                  refine zr_aaldW F zd_XReader_readThings_129 hs121 hi123 ea125 ?_
                  refine zr_iload_n F zd_XReader_readThings_130 rfl ?_
                  obtain ⟨le127, hs126, h⟩ := zoS_s h
                  cases ep128 : F_XReader_readNode sh p13 v0 a125 v3 with
                  | none =>
                    rw [ep128] at h
                    dsimp only [zoX] at h
                    obtain ⟨mq129, emq129, h⟩ := zoB_s h
                    obtain rfl := Option.some.inj h
                    obtain ⟨ef, en⟩ := hp rfl
                    subst ef
                    subst en
                    exact zr_thrV F hno (kT_XReader_readNode l D tA b sh _ hl emq129) zd_XReader_readThings_131 (zW_o hs126 (by decide)) rfl zs_XReader_122 rfl zq_XReader_readNode rfl rfl ⟨(Nat.le_of_ble_eq_true rfl), (Nat.le_of_ble_eq_true rfl)⟩ (Nat.le_of_ble_eq_true rfl) ⟨(Nat.le_of_ble_eq_true rfl), (Nat.le_of_ble_eq_true rfl)⟩ ⟨(Nat.le_of_ble_eq_true rfl), (Nat.le_of_ble_eq_true rfl)⟩
                  | some p128 =>
                    rw [ep128] at h
                    dsimp only [zoX] at h
                    refine zr_callV0 F (k_XReader_readNode l D tA b sh _ ep128) zd_XReader_readThings_131 (zW_o hs126 (by decide)) rfl zs_XReader_122 rfl zq_XReader_readNode rfl rfl ⟨(Nat.le_of_ble_eq_true rfl), (Nat.le_of_ble_eq_true rfl)⟩ (Nat.le_of_ble_eq_true rfl) ⟨(Nat.le_of_ble_eq_true rfl), (Nat.le_of_ble_eq_true rfl)⟩ ?_
                    refine zr_goto F 150 zd_XReader_readThings_134 (by decide) ?_
                    refine zr_aload_n F zd_XReader_readThings_150 rfl ?_
                    refine zr_bipushv (v := 125) F zd_XReader_readThings_151 (by decide) ?_
                    obtain ⟨le131, hs130, h⟩ := zoS_s h
                    cases ep132 : F_XReader_need sh p128 v0 125 with
                    | none =>
                      rw [ep132] at h
                      dsimp only [zoX] at h
                      obtain ⟨mq133, emq133, h⟩ := zoB_s h
                      obtain rfl := Option.some.inj h
                      obtain ⟨ef, en⟩ := hp rfl
                      subst ef
                      subst en
                      exact zr_thrV F hno (kT_XReader_need l D tA b sh _ hl emq133) zd_XReader_readThings_153 (zW_o hs130 (by decide)) rfl zs_XReader_45 rfl zq_XReader_need rfl rfl ⟨(Nat.le_of_ble_eq_true rfl), (Nat.le_of_ble_eq_true rfl)⟩ (Nat.le_of_ble_eq_true rfl) ⟨(Nat.le_of_ble_eq_true rfl), (Nat.le_of_ble_eq_true rfl)⟩ ⟨(Nat.le_of_ble_eq_true rfl), (Nat.le_of_ble_eq_true rfl)⟩
                    | some p132 =>
                      rw [ep132] at h
                      dsimp only [zoX] at h
                      refine zr_callV0 F (k_XReader_need l D tA b sh _ ep132) zd_XReader_readThings_153 (zW_o hs130 (by decide)) rfl zs_XReader_45 rfl zq_XReader_need rfl rfl ⟨(Nat.le_of_ble_eq_true rfl), (Nat.le_of_ble_eq_true rfl)⟩ (Nat.le_of_ble_eq_true rfl) ⟨(Nat.le_of_ble_eq_true rfl), (Nat.le_of_ble_eq_true rfl)⟩ ?_
                      refine zr_aload_n F zd_XReader_readThings_156 rfl ?_
                      refine zr_pcn 157 rfl ?_
                      obtain ⟨le135, hs134, h⟩ := zoS_s h
                      obtain ⟨a136, ea136, h⟩ := zoB_s h
                      refine zr_get F 7 7 zd_XReader_readThings_157 (zW_o hs134 (by decide)) rfl (by decide) zw_55 rfl (by rfl) ?_
                      refine zr_tor ea136 ?_
                      obtain ⟨le138, hs137, h⟩ := zoS_s h
                      obtain ⟨a139, ea139, h⟩ := zoB_s h
                      refine zr_get F 8 0 zd_XReader_readThings_160 (zW_o hs137 (by decide)) rfl (by decide) zw_284 rfl (by rfl) ?_
                      refine zr_tor ea139 ?_
                      refine zr_iload_n F zd_XReader_readThings_163 rfl ?_
                      refine zr_iload_n F zd_XReader_readThings_164 rfl ?_
                      refine zr_iconstv (v := 1) F zd_XReader_readThings_165 (by decide) ?_
                      refine zr_iadd F zd_XReader_readThings_166 ?_
                      obtain ⟨x140, ex140, h⟩ := zoL_s h
                      rw [← ex140]
                      obtain ⟨le142, hs141, h⟩ := zoS_s h
                      obtain ⟨hi143, h⟩ := zoI_s h
                      refine zr_iast F zd_XReader_readThings_167 (zW_a0 hs141) hi143 ?_
                      obtain ⟨mm144, emm144, h⟩ := zoL_s h
                      refine zr_norm (zW tA b sh mm144) _ (by rw [emm144]; exact zW_s0 hs141) rfl ?_
                      refine zr_aload_n F zd_XReader_readThings_168 rfl ?_
                      refine zr_pcn 169 rfl ?_
                      refine zr_bipushv (v := 44) F zd_XReader_readThings_169 (by decide) ?_
                      obtain ⟨le146, hs145, h⟩ := zoS_s h
                      obtain ⟨p147, ep147, h⟩ := zoB_s h
                      refine zr_callV1 F (k_XReader_takes l D tA b sh _ ep147) zd_XReader_readThings_171 (zW_o hs145 (by decide)) rfl zs_XReader_74 rfl zq_XReader_takes rfl rfl ⟨(Nat.le_of_ble_eq_true rfl), (Nat.le_of_ble_eq_true rfl)⟩ (Nat.le_of_ble_eq_true rfl) ⟨(Nat.le_of_ble_eq_true rfl), (Nat.le_of_ble_eq_true rfl)⟩ ?_
                      refine zr_istore_n F zd_XReader_readThings_174 (by decide) ?_
                      refine zr_iinc (v := (v3 + 1)) F zd_XReader_readThings_175 rfl rfl (by decide) ?_
                      refine zr_goto F 23 zd_XReader_readThings_178 (by decide) ?_
                      refine zr_loc (L' := [(0, .ref (b + v0)), (1, .int v1), (2, .int (p147.1)), (3, .int (v3 + 1))]) ⟨rfl, rfl, rfl, rfl, trivial⟩ ?_
                      exact ih _ _ _ _ _ _ h hx0 hp
                ·
                  rw [if_neg hb15_3] at h
                  refine zr_tableOut F 137 zd_XReader_readThings_43 (zx_out v1 0 3 (by decide) (by decide) (by decide) (by omega) (fun j hj => by match j, hj with | 0, _ => exact hb15_0 | 1, _ => exact hb15_1 | 2, _ => exact hb15_2 | 3, _ => exact hb15_3 | j + 4, hq => exact absurd hq (by omega))) (by decide) ?_
                  refine zr_aload_n F zd_XReader_readThings_137 rfl ?_
                  refine zr_aload_n F zd_XReader_readThings_138 rfl ?_
                  obtain ⟨le149, hs148, h⟩ := zoS_s h
                  obtain ⟨a150, ea150, h⟩ := zoB_s h
                  refine zr_get F 7 7 zd_XReader_readThings_139 (zW_o hs148 (by decide)) rfl (by decide) zw_55 rfl (by rfl) ?_
                  refine zr_tor ea150 ?_
                  refine zr_pcn 142 rfl ?_
                  obtain ⟨le152, hs151, h⟩ := zoS_s h
                  obtain ⟨a153, ea153, h⟩ := zoB_s h
                  refine zr_get F 8 5 zd_XReader_readThings_142 (zW_o hs151 (by decide)) rfl (by decide) zw_300 rfl (by rfl) ?_
                  refine zr_tor ea153 ?_
                  refine zr_iload_n F zd_XReader_readThings_145 rfl ?_
                  obtain ⟨t157, le155, hs154, h⟩ := zoR_s h
                  obtain ⟨hi156, h⟩ := zoI_s h
                  obtain ⟨a158, ea158, h⟩ := zoB_s h
                  refine zr_aaldW F zd_XReader_readThings_146 hs154 hi156 ea158 ?_
                  obtain ⟨le160, hs159, h⟩ := zoS_s h
                  cases ep161 : F_XReader_readTrack sh p13 v0 a158 with
                  | none =>
                    rw [ep161] at h
                    dsimp only [zoX] at h
                    obtain ⟨mq162, emq162, h⟩ := zoB_s h
                    obtain rfl := Option.some.inj h
                    obtain ⟨ef, en⟩ := hp rfl
                    subst ef
                    subst en
                    exact zr_thrV F hno (kT_XReader_readTrack l D tA b sh _ hl emq162) zd_XReader_readThings_147 (zW_o hs159 (by decide)) rfl zs_XReader_129 rfl zq_XReader_readTrack rfl rfl ⟨(Nat.le_of_ble_eq_true rfl), (Nat.le_of_ble_eq_true rfl)⟩ (Nat.le_of_ble_eq_true rfl) ⟨(Nat.le_of_ble_eq_true rfl), (Nat.le_of_ble_eq_true rfl)⟩ ⟨(Nat.le_of_ble_eq_true rfl), (Nat.le_of_ble_eq_true rfl)⟩
                  | some p161 =>
                    rw [ep161] at h
                    dsimp only [zoX] at h
                    refine zr_callV0 F (k_XReader_readTrack l D tA b sh _ ep161) zd_XReader_readThings_147 (zW_o hs159 (by decide)) rfl zs_XReader_129 rfl zq_XReader_readTrack rfl rfl ⟨(Nat.le_of_ble_eq_true rfl), (Nat.le_of_ble_eq_true rfl)⟩ (Nat.le_of_ble_eq_true rfl) ⟨(Nat.le_of_ble_eq_true rfl), (Nat.le_of_ble_eq_true rfl)⟩ ?_
                    refine zr_aload_n F zd_XReader_readThings_150 rfl ?_
                    refine zr_bipushv (v := 125) F zd_XReader_readThings_151 (by decide) ?_
                    obtain ⟨le164, hs163, h⟩ := zoS_s h
                    cases ep165 : F_XReader_need sh p161 v0 125 with
                    | none =>
                      rw [ep165] at h
                      dsimp only [zoX] at h
                      obtain ⟨mq166, emq166, h⟩ := zoB_s h
                      obtain rfl := Option.some.inj h
                      obtain ⟨ef, en⟩ := hp rfl
                      subst ef
                      subst en
                      exact zr_thrV F hno (kT_XReader_need l D tA b sh _ hl emq166) zd_XReader_readThings_153 (zW_o hs163 (by decide)) rfl zs_XReader_45 rfl zq_XReader_need rfl rfl ⟨(Nat.le_of_ble_eq_true rfl), (Nat.le_of_ble_eq_true rfl)⟩ (Nat.le_of_ble_eq_true rfl) ⟨(Nat.le_of_ble_eq_true rfl), (Nat.le_of_ble_eq_true rfl)⟩ ⟨(Nat.le_of_ble_eq_true rfl), (Nat.le_of_ble_eq_true rfl)⟩
                    | some p165 =>
                      rw [ep165] at h
                      dsimp only [zoX] at h
                      refine zr_callV0 F (k_XReader_need l D tA b sh _ ep165) zd_XReader_readThings_153 (zW_o hs163 (by decide)) rfl zs_XReader_45 rfl zq_XReader_need rfl rfl ⟨(Nat.le_of_ble_eq_true rfl), (Nat.le_of_ble_eq_true rfl)⟩ (Nat.le_of_ble_eq_true rfl) ⟨(Nat.le_of_ble_eq_true rfl), (Nat.le_of_ble_eq_true rfl)⟩ ?_
                      refine zr_aload_n F zd_XReader_readThings_156 rfl ?_
                      refine zr_pcn 157 rfl ?_
                      obtain ⟨le168, hs167, h⟩ := zoS_s h
                      obtain ⟨a169, ea169, h⟩ := zoB_s h
                      refine zr_get F 7 7 zd_XReader_readThings_157 (zW_o hs167 (by decide)) rfl (by decide) zw_55 rfl (by rfl) ?_
                      refine zr_tor ea169 ?_
                      obtain ⟨le171, hs170, h⟩ := zoS_s h
                      obtain ⟨a172, ea172, h⟩ := zoB_s h
                      refine zr_get F 8 0 zd_XReader_readThings_160 (zW_o hs170 (by decide)) rfl (by decide) zw_284 rfl (by rfl) ?_
                      refine zr_tor ea172 ?_
                      refine zr_iload_n F zd_XReader_readThings_163 rfl ?_
                      refine zr_iload_n F zd_XReader_readThings_164 rfl ?_
                      refine zr_iconstv (v := 1) F zd_XReader_readThings_165 (by decide) ?_
                      refine zr_iadd F zd_XReader_readThings_166 ?_
                      obtain ⟨x173, ex173, h⟩ := zoL_s h
                      rw [← ex173]
                      obtain ⟨le175, hs174, h⟩ := zoS_s h
                      obtain ⟨hi176, h⟩ := zoI_s h
                      refine zr_iast F zd_XReader_readThings_167 (zW_a0 hs174) hi176 ?_
                      obtain ⟨mm177, emm177, h⟩ := zoL_s h
                      refine zr_norm (zW tA b sh mm177) _ (by rw [emm177]; exact zW_s0 hs174) rfl ?_
                      refine zr_aload_n F zd_XReader_readThings_168 rfl ?_
                      refine zr_pcn 169 rfl ?_
                      refine zr_bipushv (v := 44) F zd_XReader_readThings_169 (by decide) ?_
                      obtain ⟨le179, hs178, h⟩ := zoS_s h
                      obtain ⟨p180, ep180, h⟩ := zoB_s h
                      refine zr_callV1 F (k_XReader_takes l D tA b sh _ ep180) zd_XReader_readThings_171 (zW_o hs178 (by decide)) rfl zs_XReader_74 rfl zq_XReader_takes rfl rfl ⟨(Nat.le_of_ble_eq_true rfl), (Nat.le_of_ble_eq_true rfl)⟩ (Nat.le_of_ble_eq_true rfl) ⟨(Nat.le_of_ble_eq_true rfl), (Nat.le_of_ble_eq_true rfl)⟩ ?_
                      refine zr_istore_n F zd_XReader_readThings_174 (by decide) ?_
                      refine zr_iinc (v := (v3 + 1)) F zd_XReader_readThings_175 rfl rfl (by decide) ?_
                      refine zr_goto F 23 zd_XReader_readThings_178 (by decide) ?_
                      refine zr_loc (L' := [(0, .ref (b + v0)), (1, .int v1), (2, .int (p180.1)), (3, .int (v3 + 1))]) ⟨rfl, rfl, rfl, rfl, trivial⟩ ?_
                      exact ih _ _ _ _ _ _ h hx0 hp
def T_XReader_readThings (sh : zSh) (mm : zMem) (o : Nat) (x0_ : Int32) : Option zMem := zoS (sh o) 7 (fun le2 => zoX (F_XReader_need sh mm o 91) (T_XReader_need sh mm o 91) (fun p3 => zoS (sh o) 7 (fun le5 => Option.bind (F_XReader_sees sh p3 o 93) (fun p6 => (if p6.1 = 0 then Option.bind (L_T_XReader_readThings_23 sh zfuel o x0_ 1 0 (p6.2)) (fun q200 => (if q200.1 = 1 then (if q200.2.2.2.1 = 0 then zoS (sh (q200.2.1)) 7 (fun le203 => zoX (F_XReader_need sh (q200.2.2.2.2.2) (q200.2.1) 93) (T_XReader_need sh (q200.2.2.2.2.2) (q200.2.1) 93) (fun p204 => none)) else zoS (sh (q200.2.1)) 7 (fun le206 => Option.bind (F_XReader_sees sh (q200.2.2.2.2.2) (q200.2.1) 123) (fun p207 => (if p207.1 = 0 then zoS (sh (q200.2.1)) 7 (fun le210 => zoS (sh (q200.2.1)) 7 (fun le212 => T_XReader_refuse sh (p207.2) (q200.2.1) 1 ((p207.2).1 (q200.2.1) 5))) else zoS (sh (q200.2.1)) 7 (fun le215 => zoS (sh (q200.2.1)) 7 (fun le217 => T_XReader_refuse sh (p207.2) (q200.2.1) 3 ((p207.2).1 (q200.2.1) 5))))))) else some (q200.2.2.2.2.2))) else Option.bind (L_T_XReader_readThings_23 sh zfuel o x0_ 0 0 (p6.2)) (fun q181 => (if q181.1 = 1 then (if q181.2.2.2.1 = 0 then zoS (sh (q181.2.1)) 7 (fun le184 => zoX (F_XReader_need sh (q181.2.2.2.2.2) (q181.2.1) 93) (T_XReader_need sh (q181.2.2.2.2.2) (q181.2.1) 93) (fun p185 => none)) else zoS (sh (q181.2.1)) 7 (fun le187 => Option.bind (F_XReader_sees sh (q181.2.2.2.2.2) (q181.2.1) 123) (fun p188 => (if p188.1 = 0 then zoS (sh (q181.2.1)) 7 (fun le191 => zoS (sh (q181.2.1)) 7 (fun le193 => T_XReader_refuse sh (p188.2) (q181.2.1) 1 ((p188.2).1 (q181.2.1) 5))) else zoS (sh (q181.2.1)) 7 (fun le196 => zoS (sh (q181.2.1)) 7 (fun le198 => T_XReader_refuse sh (p188.2) (q181.2.1) 3 ((p188.2).1 (q181.2.1) 5))))))) else some (q181.2.2.2.2.2))))))))
set_option maxHeartbeats 4000000 in
set_option maxRecDepth 100000 in
theorem kT_XReader_readThings (l : Launch) (D : va_G) (tA : Nat → ClassId) (b : Nat) (sh : zSh) (n : Nat) (hl : l.stackTraces = false) {mm : zMem} {o : Nat} {x0_ : Int32} {r : zMem} (h : T_XReader_readThings sh mm o x0_ = some r) : zMT l D tA b zy_XReader_readThings zb_XReader_readThings 4 none 10 190 1 6 [.ref (b + o), .int x0_] (zW tA b sh mm) n "java/lang/IllegalArgumentException" (zW tA b sh r) (n + 1) := by
  unfold T_XReader_readThings at h
  refine zMT_of (own := "OrreryBox$Reader") (plainFor_of_name (by decide)) rfl (Nat.le_of_ble_eq_true rfl) (fun p e s m below meth c F hno hH => ?_)
  refine zr_aload_n F zd_XReader_readThings_0 rfl ?_
  refine zr_bipushv (v := 91) F zd_XReader_readThings_1 (by decide) ?_
  obtain ⟨le2, hs1, h⟩ := zoS_s h
  cases ep3 : F_XReader_need sh mm o 91 with
  | none =>
    rw [ep3] at h
    dsimp only [zoX] at h
    exact zr_thrV F hno (kT_XReader_need l D tA b sh _ hl h) zd_XReader_readThings_3 (zW_o hs1 (by decide)) rfl zs_XReader_45 rfl zq_XReader_need rfl rfl ⟨(Nat.le_of_ble_eq_true rfl), (Nat.le_of_ble_eq_true rfl)⟩ (Nat.le_of_ble_eq_true rfl) ⟨(Nat.le_of_ble_eq_true rfl), (Nat.le_of_ble_eq_true rfl)⟩ ⟨(Nat.le_of_ble_eq_true rfl), (Nat.le_of_ble_eq_true rfl)⟩
  | some p3 =>
    rw [ep3] at h
    dsimp only [zoX] at h
    refine zr_callV0 F (k_XReader_need l D tA b sh _ ep3) zd_XReader_readThings_3 (zW_o hs1 (by decide)) rfl zs_XReader_45 rfl zq_XReader_need rfl rfl ⟨(Nat.le_of_ble_eq_true rfl), (Nat.le_of_ble_eq_true rfl)⟩ (Nat.le_of_ble_eq_true rfl) ⟨(Nat.le_of_ble_eq_true rfl), (Nat.le_of_ble_eq_true rfl)⟩ ?_
    refine zr_aload_n F zd_XReader_readThings_6 rfl ?_
    refine zr_bipushv (v := 93) F zd_XReader_readThings_7 (by decide) ?_
    obtain ⟨le5, hs4, h⟩ := zoS_s h
    obtain ⟨p6, ep6, h⟩ := zoB_s h
    refine zr_callV1 F (k_XReader_sees l D tA b sh _ ep6) zd_XReader_readThings_9 (zW_o hs4 (by decide)) rfl zs_XReader_49 rfl zq_XReader_sees rfl rfl ⟨(Nat.le_of_ble_eq_true rfl), (Nat.le_of_ble_eq_true rfl)⟩ (Nat.le_of_ble_eq_true rfl) ⟨(Nat.le_of_ble_eq_true rfl), (Nat.le_of_ble_eq_true rfl)⟩ ?_
    refine zr_if_ne F 19 zd_XReader_readThings_12 (by decide) (fun hb7 => ?_) (fun hb7 => ?_)
    ·
      replace h := (if_neg hb7).symm.trans h
      refine zr_pcn 19 rfl ?_
      refine zr_iconstv (v := 0) F zd_XReader_readThings_19 (by decide) ?_
      refine zr_istore_n F zd_XReader_readThings_20 (by decide) ?_
      refine zr_iconstv (v := 0) F zd_XReader_readThings_21 (by decide) ?_
      refine zr_istore_n F zd_XReader_readThings_22 (by decide) ?_
      obtain ⟨q181, eq181, h⟩ := zoB_s h
      refine zr_loc (L' := [(0, .ref (b + o)), (1, .int x0_), (2, .int 0), (3, .int 0)]) ⟨rfl, rfl, rfl, rfl, trivial⟩ ?_
      refine lp_T_XReader_readThings_23 F hl hno _ _ _ _ _ _ _ eq181 ?_ ?_
      ·
        intro ec
        rw [if_pos ec] at h
        refine zr_iload_n F zd_XReader_readThings_181 rfl ?_
        refine zr_if_eq F 207 zd_XReader_readThings_182 (by decide) (fun hb182 => ?_) (fun hb182 => ?_)
        ·
          replace h := (if_pos hb182).symm.trans h
          refine zr_aload_n F zd_XReader_readThings_207 rfl ?_
          refine zr_pcn 208 rfl ?_
          refine zr_bipushv (v := 93) F zd_XReader_readThings_208 (by decide) ?_
          obtain ⟨le184, hs183, h⟩ := zoS_s h
          cases ep185 : F_XReader_need sh (q181.2.2.2.2.2) (q181.2.1) 93 with
          | none =>
            rw [ep185] at h
            dsimp only [zoX] at h
            exact zr_thrV F hno (kT_XReader_need l D tA b sh _ hl h) zd_XReader_readThings_210 (zW_o hs183 (by decide)) rfl zs_XReader_45 rfl zq_XReader_need rfl rfl ⟨(Nat.le_of_ble_eq_true rfl), (Nat.le_of_ble_eq_true rfl)⟩ (Nat.le_of_ble_eq_true rfl) ⟨(Nat.le_of_ble_eq_true rfl), (Nat.le_of_ble_eq_true rfl)⟩ ⟨(Nat.le_of_ble_eq_true rfl), (Nat.le_of_ble_eq_true rfl)⟩
          | some p185 =>
            rw [ep185] at h
            dsimp only [zoX] at h
            refine zr_callV0 F (k_XReader_need l D tA b sh _ ep185) zd_XReader_readThings_210 (zW_o hs183 (by decide)) rfl zs_XReader_45 rfl zq_XReader_need rfl rfl ⟨(Nat.le_of_ble_eq_true rfl), (Nat.le_of_ble_eq_true rfl)⟩ (Nat.le_of_ble_eq_true rfl) ⟨(Nat.le_of_ble_eq_true rfl), (Nat.le_of_ble_eq_true rfl)⟩ ?_
            cases h
        ·
          replace h := (if_neg hb182).symm.trans h
          refine zr_aload_n F zd_XReader_readThings_185 rfl ?_
          refine zr_aload_n F zd_XReader_readThings_186 rfl ?_
          refine zr_bipushv (v := 123) F zd_XReader_readThings_187 (by decide) ?_
          obtain ⟨le187, hs186, h⟩ := zoS_s h
          obtain ⟨p188, ep188, h⟩ := zoB_s h
          refine zr_callV1 F (k_XReader_sees l D tA b sh _ ep188) zd_XReader_readThings_189 (zW_o hs186 (by decide)) rfl zs_XReader_49 rfl zq_XReader_sees rfl rfl ⟨(Nat.le_of_ble_eq_true rfl), (Nat.le_of_ble_eq_true rfl)⟩ (Nat.le_of_ble_eq_true rfl) ⟨(Nat.le_of_ble_eq_true rfl), (Nat.le_of_ble_eq_true rfl)⟩ ?_
          refine zr_if_eq F 199 zd_XReader_readThings_192 (by decide) (fun hb189 => ?_) (fun hb189 => ?_)
          ·
            replace h := (if_pos hb189).symm.trans h
            refine zr_pcn 199 rfl ?_
            refine zr_iconstv (v := 1) F zd_XReader_readThings_199 (by decide) ?_
            refine zr_aload_n F zd_XReader_readThings_200 rfl ?_
            obtain ⟨le191, hs190, h⟩ := zoS_s h
            refine zr_get F 7 5 zd_XReader_readThings_201 (zW_o hs190 (by decide)) rfl (by decide) zw_53 rfl (by rfl) ?_
            obtain ⟨le193, hs192, h⟩ := zoS_s h
            exact zr_thrV F hno (kT_XReader_refuse l D tA b sh _ hl h) zd_XReader_readThings_204 (zW_o hs192 (by decide)) rfl zs_XReader_77 rfl zq_XReader_refuse rfl rfl ⟨(Nat.le_of_ble_eq_true rfl), (Nat.le_of_ble_eq_true rfl)⟩ (Nat.le_of_ble_eq_true rfl) ⟨(Nat.le_of_ble_eq_true rfl), (Nat.le_of_ble_eq_true rfl)⟩ ⟨(Nat.le_of_ble_eq_true rfl), (Nat.le_of_ble_eq_true rfl)⟩
          ·
            replace h := (if_neg hb189).symm.trans h
            refine zr_iconstv (v := 3) F zd_XReader_readThings_195 (by decide) ?_
            refine zr_goto F 200 zd_XReader_readThings_196 (by decide) ?_
            refine zr_aload_n F zd_XReader_readThings_200 rfl ?_
            obtain ⟨le196, hs195, h⟩ := zoS_s h
            refine zr_get F 7 5 zd_XReader_readThings_201 (zW_o hs195 (by decide)) rfl (by decide) zw_53 rfl (by rfl) ?_
            refine zr_pcn 204 rfl ?_
            obtain ⟨le198, hs197, h⟩ := zoS_s h
            exact zr_thrV F hno (kT_XReader_refuse l D tA b sh _ hl h) zd_XReader_readThings_204 (zW_o hs197 (by decide)) rfl zs_XReader_77 rfl zq_XReader_refuse rfl rfl ⟨(Nat.le_of_ble_eq_true rfl), (Nat.le_of_ble_eq_true rfl)⟩ (Nat.le_of_ble_eq_true rfl) ⟨(Nat.le_of_ble_eq_true rfl), (Nat.le_of_ble_eq_true rfl)⟩ ⟨(Nat.le_of_ble_eq_true rfl), (Nat.le_of_ble_eq_true rfl)⟩
      ·
        intro ec
        rw [if_neg (by rw [ec]; decide)] at h
        obtain rfl := Option.some.inj h
        exact ⟨rfl, rfl⟩
    ·
      replace h := (if_pos hb7).symm.trans h
      refine zr_iconstv (v := 1) F zd_XReader_readThings_15 (by decide) ?_
      refine zr_goto F 20 zd_XReader_readThings_16 (by decide) ?_
      refine zr_istore_n F zd_XReader_readThings_20 (by decide) ?_
      refine zr_iconstv (v := 0) F zd_XReader_readThings_21 (by decide) ?_
      refine zr_istore_n F zd_XReader_readThings_22 (by decide) ?_
      obtain ⟨q200, eq200, h⟩ := zoB_s h
      refine zr_loc (L' := [(0, .ref (b + o)), (1, .int x0_), (2, .int 1), (3, .int 0)]) ⟨rfl, rfl, rfl, rfl, trivial⟩ ?_
      refine lp_T_XReader_readThings_23 F hl hno _ _ _ _ _ _ _ eq200 ?_ ?_
      ·
        intro ec
        rw [if_pos ec] at h
        refine zr_iload_n F zd_XReader_readThings_181 rfl ?_
        refine zr_if_eq F 207 zd_XReader_readThings_182 (by decide) (fun hb201 => ?_) (fun hb201 => ?_)
        ·
          replace h := (if_pos hb201).symm.trans h
          refine zr_pcn 207 rfl ?_
          refine zr_aload_n F zd_XReader_readThings_207 rfl ?_
          refine zr_bipushv (v := 93) F zd_XReader_readThings_208 (by decide) ?_
          obtain ⟨le203, hs202, h⟩ := zoS_s h
          cases ep204 : F_XReader_need sh (q200.2.2.2.2.2) (q200.2.1) 93 with
          | none =>
            rw [ep204] at h
            dsimp only [zoX] at h
            exact zr_thrV F hno (kT_XReader_need l D tA b sh _ hl h) zd_XReader_readThings_210 (zW_o hs202 (by decide)) rfl zs_XReader_45 rfl zq_XReader_need rfl rfl ⟨(Nat.le_of_ble_eq_true rfl), (Nat.le_of_ble_eq_true rfl)⟩ (Nat.le_of_ble_eq_true rfl) ⟨(Nat.le_of_ble_eq_true rfl), (Nat.le_of_ble_eq_true rfl)⟩ ⟨(Nat.le_of_ble_eq_true rfl), (Nat.le_of_ble_eq_true rfl)⟩
          | some p204 =>
            rw [ep204] at h
            dsimp only [zoX] at h
            refine zr_callV0 F (k_XReader_need l D tA b sh _ ep204) zd_XReader_readThings_210 (zW_o hs202 (by decide)) rfl zs_XReader_45 rfl zq_XReader_need rfl rfl ⟨(Nat.le_of_ble_eq_true rfl), (Nat.le_of_ble_eq_true rfl)⟩ (Nat.le_of_ble_eq_true rfl) ⟨(Nat.le_of_ble_eq_true rfl), (Nat.le_of_ble_eq_true rfl)⟩ ?_
            cases h
        ·
          replace h := (if_neg hb201).symm.trans h
          refine zr_aload_n F zd_XReader_readThings_185 rfl ?_
          refine zr_aload_n F zd_XReader_readThings_186 rfl ?_
          refine zr_bipushv (v := 123) F zd_XReader_readThings_187 (by decide) ?_
          obtain ⟨le206, hs205, h⟩ := zoS_s h
          obtain ⟨p207, ep207, h⟩ := zoB_s h
          refine zr_callV1 F (k_XReader_sees l D tA b sh _ ep207) zd_XReader_readThings_189 (zW_o hs205 (by decide)) rfl zs_XReader_49 rfl zq_XReader_sees rfl rfl ⟨(Nat.le_of_ble_eq_true rfl), (Nat.le_of_ble_eq_true rfl)⟩ (Nat.le_of_ble_eq_true rfl) ⟨(Nat.le_of_ble_eq_true rfl), (Nat.le_of_ble_eq_true rfl)⟩ ?_
          refine zr_pcn 192 rfl ?_
          refine zr_if_eq F 199 zd_XReader_readThings_192 (by decide) (fun hb208 => ?_) (fun hb208 => ?_)
          ·
            replace h := (if_pos hb208).symm.trans h
            refine zr_iconstv (v := 1) F zd_XReader_readThings_199 (by decide) ?_
            refine zr_aload_n F zd_XReader_readThings_200 rfl ?_
            obtain ⟨le210, hs209, h⟩ := zoS_s h
            refine zr_get F 7 5 zd_XReader_readThings_201 (zW_o hs209 (by decide)) rfl (by decide) zw_53 rfl (by rfl) ?_
            obtain ⟨le212, hs211, h⟩ := zoS_s h
            exact zr_thrV F hno (kT_XReader_refuse l D tA b sh _ hl h) zd_XReader_readThings_204 (zW_o hs211 (by decide)) rfl zs_XReader_77 rfl zq_XReader_refuse rfl rfl ⟨(Nat.le_of_ble_eq_true rfl), (Nat.le_of_ble_eq_true rfl)⟩ (Nat.le_of_ble_eq_true rfl) ⟨(Nat.le_of_ble_eq_true rfl), (Nat.le_of_ble_eq_true rfl)⟩ ⟨(Nat.le_of_ble_eq_true rfl), (Nat.le_of_ble_eq_true rfl)⟩
          ·
            replace h := (if_neg hb208).symm.trans h
            refine zr_iconstv (v := 3) F zd_XReader_readThings_195 (by decide) ?_
            refine zr_goto F 200 zd_XReader_readThings_196 (by decide) ?_
            refine zr_aload_n F zd_XReader_readThings_200 rfl ?_
            refine zr_pcn 201 rfl ?_
            obtain ⟨le215, hs214, h⟩ := zoS_s h
            refine zr_get F 7 5 zd_XReader_readThings_201 (zW_o hs214 (by decide)) rfl (by decide) zw_53 rfl (by rfl) ?_
            obtain ⟨le217, hs216, h⟩ := zoS_s h
            exact zr_thrV F hno (kT_XReader_refuse l D tA b sh _ hl h) zd_XReader_readThings_204 (zW_o hs216 (by decide)) rfl zs_XReader_77 rfl zq_XReader_refuse rfl rfl ⟨(Nat.le_of_ble_eq_true rfl), (Nat.le_of_ble_eq_true rfl)⟩ (Nat.le_of_ble_eq_true rfl) ⟨(Nat.le_of_ble_eq_true rfl), (Nat.le_of_ble_eq_true rfl)⟩ ⟨(Nat.le_of_ble_eq_true rfl), (Nat.le_of_ble_eq_true rfl)⟩
      ·
        intro ec
        rw [if_neg (by rw [ec]; decide)] at h
        obtain rfl := Option.some.inj h
        exact ⟨rfl, rfl⟩
