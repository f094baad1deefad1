abbrev zb_XSight_cutBySide : ByteArray := prog_10_method_14_code
def zy_XSight_cutBySide : MethodName := ⟨"OrreryBox$Sight", "cutBySide", "(I)V"⟩
theorem zc_XSight_cutBySide : Cond.code zy_XSight_cutBySide zb_XSight_cutBySide 11 none ∈ gw := gw_t 728 (by decide +kernel) rfl
theorem zq_XSight_cutBySide : zy_XSight_cutBySide.cls ≠ "java/lang/invoke/MethodHandle" ∧ zy_XSight_cutBySide.cls ≠ "java/lang/invoke/VarHandle" ∧ (parseMethodDescriptor zy_XSight_cutBySide.desc).map (fun d => d.parameters.length) = some 1 := by decide +kernel
theorem zd_XSight_cutBySide_0 : decode zb_XSight_cutBySide 0 = .ok (.aload_n 0, 1) := by decide +kernel
theorem zd_XSight_cutBySide_1 : decode zb_XSight_cutBySide 1 = .ok (.iload_n 1, 1) := by decide +kernel
theorem zd_XSight_cutBySide_2 : decode zb_XSight_cutBySide 2 = .ok (.iconst 0, 1) := by decide +kernel
theorem zd_XSight_cutBySide_3 : decode zb_XSight_cutBySide 3 = .ok (.invokevirtual 212, 3) := by decide +kernel
theorem zd_XSight_cutBySide_6 : decode zb_XSight_cutBySide 6 = .ok (.lstore_n 2, 1) := by decide +kernel
theorem zd_XSight_cutBySide_7 : decode zb_XSight_cutBySide 7 = .ok (.lload_n 2, 1) := by decide +kernel
theorem zd_XSight_cutBySide_8 : decode zb_XSight_cutBySide 8 = .ok (.lstore 4, 2) := by decide +kernel
theorem zd_XSight_cutBySide_10 : decode zb_XSight_cutBySide 10 = .ok (.iconst 0, 1) := by decide +kernel
theorem zd_XSight_cutBySide_11 : decode zb_XSight_cutBySide 11 = .ok (.istore 6, 2) := by decide +kernel
theorem zd_XSight_cutBySide_13 : decode zb_XSight_cutBySide 13 = .ok (.iconst 0, 1) := by decide +kernel
theorem zd_XSight_cutBySide_14 : decode zb_XSight_cutBySide 14 = .ok (.istore 7, 2) := by decide +kernel
theorem zd_XSight_cutBySide_16 : decode zb_XSight_cutBySide 16 = .ok (.iload 7, 2) := by decide +kernel
theorem zd_XSight_cutBySide_18 : decode zb_XSight_cutBySide 18 = .ok (.aload_n 0, 1) := by decide +kernel
theorem zd_XSight_cutBySide_19 : decode zb_XSight_cutBySide 19 = .ok (.getfield 62, 3) := by decide +kernel
theorem zd_XSight_cutBySide_22 : decode zb_XSight_cutBySide 22 = .ok (.if_icmp .ge 177, 3) := by decide +kernel
theorem zd_XSight_cutBySide_25 : decode zb_XSight_cutBySide 25 = .ok (.iload 6, 2) := by decide +kernel
theorem zd_XSight_cutBySide_27 : decode zb_XSight_cutBySide 27 = .ok (.iconst 2, 1) := by decide +kernel
theorem zd_XSight_cutBySide_28 : decode zb_XSight_cutBySide 28 = .ok (.iadd, 1) := by decide +kernel
theorem zd_XSight_cutBySide_29 : decode zb_XSight_cutBySide 29 = .ok (.bipush 24, 2) := by decide +kernel
theorem zd_XSight_cutBySide_31 : decode zb_XSight_cutBySide 31 = .ok (.if_icmp .gt 168, 3) := by decide +kernel
theorem zd_XSight_cutBySide_34 : decode zb_XSight_cutBySide 34 = .ok (.iload 7, 2) := by decide +kernel
theorem zd_XSight_cutBySide_36 : decode zb_XSight_cutBySide 36 = .ok (.iconst 1, 1) := by decide +kernel
theorem zd_XSight_cutBySide_37 : decode zb_XSight_cutBySide 37 = .ok (.iadd, 1) := by decide +kernel
theorem zd_XSight_cutBySide_38 : decode zb_XSight_cutBySide 38 = .ok (.aload_n 0, 1) := by decide +kernel
theorem zd_XSight_cutBySide_39 : decode zb_XSight_cutBySide 39 = .ok (.getfield 62, 3) := by decide +kernel
theorem zd_XSight_cutBySide_42 : decode zb_XSight_cutBySide 42 = .ok (.if_icmp .ge 10, 3) := by decide +kernel
theorem zd_XSight_cutBySide_45 : decode zb_XSight_cutBySide 45 = .ok (.iload 7, 2) := by decide +kernel
theorem zd_XSight_cutBySide_47 : decode zb_XSight_cutBySide 47 = .ok (.iconst 1, 1) := by decide +kernel
theorem zd_XSight_cutBySide_48 : decode zb_XSight_cutBySide 48 = .ok (.iadd, 1) := by decide +kernel
theorem zd_XSight_cutBySide_49 : decode zb_XSight_cutBySide 49 = .ok (.goto 4, 3) := by decide +kernel
theorem zd_XSight_cutBySide_52 : decode zb_XSight_cutBySide 52 = .ok (.iconst 0, 1) := by decide +kernel
theorem zd_XSight_cutBySide_53 : decode zb_XSight_cutBySide 53 = .ok (.istore 8, 2) := by decide +kernel
theorem zd_XSight_cutBySide_55 : decode zb_XSight_cutBySide 55 = .ok (.iload 8, 2) := by decide +kernel
theorem zd_XSight_cutBySide_57 : decode zb_XSight_cutBySide 57 = .ok (.ifCond .ne 7, 3) := by decide +kernel
theorem zd_XSight_cutBySide_60 : decode zb_XSight_cutBySide 60 = .ok (.lload_n 2, 1) := by decide +kernel
theorem zd_XSight_cutBySide_61 : decode zb_XSight_cutBySide 61 = .ok (.goto 10, 3) := by decide +kernel
theorem zd_XSight_cutBySide_64 : decode zb_XSight_cutBySide 64 = .ok (.aload_n 0, 1) := by decide +kernel
theorem zd_XSight_cutBySide_65 : decode zb_XSight_cutBySide 65 = .ok (.iload_n 1, 1) := by decide +kernel
theorem zd_XSight_cutBySide_66 : decode zb_XSight_cutBySide 66 = .ok (.iload 8, 2) := by decide +kernel
theorem zd_XSight_cutBySide_68 : decode zb_XSight_cutBySide 68 = .ok (.invokevirtual 212, 3) := by decide +kernel
theorem zd_XSight_cutBySide_71 : decode zb_XSight_cutBySide 71 = .ok (.lstore 9, 2) := by decide +kernel
theorem zd_XSight_cutBySide_73 : decode zb_XSight_cutBySide 73 = .ok (.lload 4, 2) := by decide +kernel
theorem zd_XSight_cutBySide_75 : decode zb_XSight_cutBySide 75 = .ok (.lconst 0, 1) := by decide +kernel
theorem zd_XSight_cutBySide_76 : decode zb_XSight_cutBySide 76 = .ok (.lcmp, 1) := by decide +kernel
theorem zd_XSight_cutBySide_77 : decode zb_XSight_cutBySide 77 = .ok (.ifCond .lt 29, 3) := by decide +kernel
theorem zd_XSight_cutBySide_80 : decode zb_XSight_cutBySide 80 = .ok (.aload_n 0, 1) := by decide +kernel
theorem zd_XSight_cutBySide_81 : decode zb_XSight_cutBySide 81 = .ok (.getfield 18, 3) := by decide +kernel
theorem zd_XSight_cutBySide_84 : decode zb_XSight_cutBySide 84 = .ok (.bipush 6, 2) := by decide +kernel
theorem zd_XSight_cutBySide_86 : decode zb_XSight_cutBySide 86 = .ok (.iload 7, 2) := by decide +kernel
theorem zd_XSight_cutBySide_88 : decode zb_XSight_cutBySide 88 = .ok (.imul, 1) := by decide +kernel
theorem zd_XSight_cutBySide_89 : decode zb_XSight_cutBySide 89 = .ok (.aload_n 0, 1) := by decide +kernel
theorem zd_XSight_cutBySide_90 : decode zb_XSight_cutBySide 90 = .ok (.getfield 39, 3) := by decide +kernel
theorem zd_XSight_cutBySide_93 : decode zb_XSight_cutBySide 93 = .ok (.bipush 6, 2) := by decide +kernel
theorem zd_XSight_cutBySide_95 : decode zb_XSight_cutBySide 95 = .ok (.iload 6, 2) := by decide +kernel
theorem zd_XSight_cutBySide_97 : decode zb_XSight_cutBySide 97 = .ok (.imul, 1) := by decide +kernel
theorem zd_XSight_cutBySide_98 : decode zb_XSight_cutBySide 98 = .ok (.bipush 6, 2) := by decide +kernel
theorem zd_XSight_cutBySide_100 : decode zb_XSight_cutBySide 100 = .ok (.invokestatic 197, 3) := by decide +kernel
theorem zd_XSight_cutBySide_103 : decode zb_XSight_cutBySide 103 = .ok (.iinc 6 1, 3) := by decide +kernel
theorem zd_XSight_cutBySide_106 : decode zb_XSight_cutBySide 106 = .ok (.lload 4, 2) := by decide +kernel
theorem zd_XSight_cutBySide_108 : decode zb_XSight_cutBySide 108 = .ok (.lconst 0, 1) := by decide +kernel
theorem zd_XSight_cutBySide_109 : decode zb_XSight_cutBySide 109 = .ok (.lcmp, 1) := by decide +kernel
theorem zd_XSight_cutBySide_110 : decode zb_XSight_cutBySide 110 = .ok (.ifCond .lt 39, 3) := by decide +kernel
theorem zd_XSight_cutBySide_113 : decode zb_XSight_cutBySide 113 = .ok (.lload 9, 2) := by decide +kernel
theorem zd_XSight_cutBySide_115 : decode zb_XSight_cutBySide 115 = .ok (.lconst 0, 1) := by decide +kernel
theorem zd_XSight_cutBySide_116 : decode zb_XSight_cutBySide 116 = .ok (.lcmp, 1) := by decide +kernel
theorem zd_XSight_cutBySide_117 : decode zb_XSight_cutBySide 117 = .ok (.ifCond .ge 32, 3) := by decide +kernel
theorem zd_XSight_cutBySide_120 : decode zb_XSight_cutBySide 120 = .ok (.aload_n 0, 1) := by decide +kernel
theorem zd_XSight_cutBySide_121 : decode zb_XSight_cutBySide 121 = .ok (.bipush 6, 2) := by decide +kernel
theorem zd_XSight_cutBySide_123 : decode zb_XSight_cutBySide 123 = .ok (.iload 7, 2) := by decide +kernel
theorem zd_XSight_cutBySide_125 : decode zb_XSight_cutBySide 125 = .ok (.imul, 1) := by decide +kernel
theorem zd_XSight_cutBySide_126 : decode zb_XSight_cutBySide 126 = .ok (.lload 4, 2) := by decide +kernel
theorem zd_XSight_cutBySide_128 : decode zb_XSight_cutBySide 128 = .ok (.bipush 6, 2) := by decide +kernel
theorem zd_XSight_cutBySide_130 : decode zb_XSight_cutBySide 130 = .ok (.iload 8, 2) := by decide +kernel
theorem zd_XSight_cutBySide_132 : decode zb_XSight_cutBySide 132 = .ok (.imul, 1) := by decide +kernel
theorem zd_XSight_cutBySide_133 : decode zb_XSight_cutBySide 133 = .ok (.lload 9, 2) := by decide +kernel
theorem zd_XSight_cutBySide_135 : decode zb_XSight_cutBySide 135 = .ok (.bipush 6, 2) := by decide +kernel
theorem zd_XSight_cutBySide_137 : decode zb_XSight_cutBySide 137 = .ok (.iload 6, 2) := by decide +kernel
theorem zd_XSight_cutBySide_139 : decode zb_XSight_cutBySide 139 = .ok (.imul, 1) := by decide +kernel
theorem zd_XSight_cutBySide_140 : decode zb_XSight_cutBySide 140 = .ok (.invokevirtual 216, 3) := by decide +kernel
theorem zd_XSight_cutBySide_143 : decode zb_XSight_cutBySide 143 = .ok (.iinc 6 1, 3) := by decide +kernel
theorem zd_XSight_cutBySide_146 : decode zb_XSight_cutBySide 146 = .ok (.goto 43, 3) := by decide +kernel
theorem zd_XSight_cutBySide_149 : decode zb_XSight_cutBySide 149 = .ok (.lload 4, 2) := by decide +kernel
theorem zd_XSight_cutBySide_151 : decode zb_XSight_cutBySide 151 = .ok (.lconst 0, 1) := by decide +kernel
theorem zd_XSight_cutBySide_152 : decode zb_XSight_cutBySide 152 = .ok (.lcmp, 1) := by decide +kernel
theorem zd_XSight_cutBySide_153 : decode zb_XSight_cutBySide 153 = .ok (.ifCond .ge 36, 3) := by decide +kernel
theorem zd_XSight_cutBySide_156 : decode zb_XSight_cutBySide 156 = .ok (.lload 9, 2) := by decide +kernel
theorem zd_XSight_cutBySide_158 : decode zb_XSight_cutBySide 158 = .ok (.lconst 0, 1) := by decide +kernel
theorem zd_XSight_cutBySide_159 : decode zb_XSight_cutBySide 159 = .ok (.lcmp, 1) := by decide +kernel
theorem zd_XSight_cutBySide_160 : decode zb_XSight_cutBySide 160 = .ok (.ifCond .lt 29, 3) := by decide +kernel
theorem zd_XSight_cutBySide_163 : decode zb_XSight_cutBySide 163 = .ok (.aload_n 0, 1) := by decide +kernel
theorem zd_XSight_cutBySide_164 : decode zb_XSight_cutBySide 164 = .ok (.bipush 6, 2) := by decide +kernel
theorem zd_XSight_cutBySide_166 : decode zb_XSight_cutBySide 166 = .ok (.iload 8, 2) := by decide +kernel
theorem zd_XSight_cutBySide_168 : decode zb_XSight_cutBySide 168 = .ok (.imul, 1) := by decide +kernel
theorem zd_XSight_cutBySide_169 : decode zb_XSight_cutBySide 169 = .ok (.lload 9, 2) := by decide +kernel
theorem zd_XSight_cutBySide_171 : decode zb_XSight_cutBySide 171 = .ok (.bipush 6, 2) := by decide +kernel
theorem zd_XSight_cutBySide_173 : decode zb_XSight_cutBySide 173 = .ok (.iload 7, 2) := by decide +kernel
theorem zd_XSight_cutBySide_175 : decode zb_XSight_cutBySide 175 = .ok (.imul, 1) := by decide +kernel
theorem zd_XSight_cutBySide_176 : decode zb_XSight_cutBySide 176 = .ok (.lload 4, 2) := by decide +kernel
theorem zd_XSight_cutBySide_178 : decode zb_XSight_cutBySide 178 = .ok (.bipush 6, 2) := by decide +kernel
theorem zd_XSight_cutBySide_180 : decode zb_XSight_cutBySide 180 = .ok (.iload 6, 2) := by decide +kernel
theorem zd_XSight_cutBySide_182 : decode zb_XSight_cutBySide 182 = .ok (.imul, 1) := by decide +kernel
theorem zd_XSight_cutBySide_183 : decode zb_XSight_cutBySide 183 = .ok (.invokevirtual 216, 3) := by decide +kernel
theorem zd_XSight_cutBySide_186 : decode zb_XSight_cutBySide 186 = .ok (.iinc 6 1, 3) := by decide +kernel
theorem zd_XSight_cutBySide_189 : decode zb_XSight_cutBySide 189 = .ok (.lload 9, 2) := by decide +kernel
theorem zd_XSight_cutBySide_191 : decode zb_XSight_cutBySide 191 = .ok (.lstore 4, 2) := by decide +kernel
theorem zd_XSight_cutBySide_193 : decode zb_XSight_cutBySide 193 = .ok (.iinc 7 1, 3) := by decide +kernel
theorem zd_XSight_cutBySide_196 : decode zb_XSight_cutBySide 196 = .ok (.goto (-180), 3) := by decide +kernel
theorem zd_XSight_cutBySide_199 : decode zb_XSight_cutBySide 199 = .ok (.aload_n 0, 1) := by decide +kernel
theorem zd_XSight_cutBySide_200 : decode zb_XSight_cutBySide 200 = .ok (.getfield 39, 3) := by decide +kernel
theorem zd_XSight_cutBySide_203 : decode zb_XSight_cutBySide 203 = .ok (.astore 7, 2) := by decide +kernel
theorem zd_XSight_cutBySide_205 : decode zb_XSight_cutBySide 205 = .ok (.aload_n 0, 1) := by decide +kernel
theorem zd_XSight_cutBySide_206 : decode zb_XSight_cutBySide 206 = .ok (.aload_n 0, 1) := by decide +kernel
theorem zd_XSight_cutBySide_207 : decode zb_XSight_cutBySide 207 = .ok (.getfield 18, 3) := by decide +kernel
theorem zd_XSight_cutBySide_210 : decode zb_XSight_cutBySide 210 = .ok (.putfield 39, 3) := by decide +kernel
theorem zd_XSight_cutBySide_213 : decode zb_XSight_cutBySide 213 = .ok (.aload_n 0, 1) := by decide +kernel
theorem zd_XSight_cutBySide_214 : decode zb_XSight_cutBySide 214 = .ok (.aload 7, 2) := by decide +kernel
theorem zd_XSight_cutBySide_216 : decode zb_XSight_cutBySide 216 = .ok (.putfield 18, 3) := by decide +kernel
theorem zd_XSight_cutBySide_219 : decode zb_XSight_cutBySide 219 = .ok (.aload_n 0, 1) := by decide +kernel
theorem zd_XSight_cutBySide_220 : decode zb_XSight_cutBySide 220 = .ok (.iload 6, 2) := by decide +kernel
theorem zd_XSight_cutBySide_222 : decode zb_XSight_cutBySide 222 = .ok (.putfield 62, 3) := by decide +kernel
theorem zd_XSight_cutBySide_225 : decode zb_XSight_cutBySide 225 = .ok (.return_, 1) := by decide +kernel
theorem zw_729 : (Jvm.Cond.methodLink "OrreryBox$Sight" (212 : Nat) ({ cls := "OrreryBox$Sight", name := "sideOf", desc := "(II)J" } : Jvm.MethodName)) ∈ gw := gw_t 729 (by decide +kernel) rfl
theorem zw_731 : (Jvm.Cond.instanceMethod ({ cls := "OrreryBox$Sight", name := "sideOf", desc := "(II)J" } : Jvm.MethodName)) ∈ gw := gw_t 731 (by decide +kernel) rfl
theorem zv_13 : (Jvm.Cond.selects "OrreryBox$Sight" (⟨"OrreryBox$Sight", "sideOf", "(II)J"⟩ : MethodName) ⟨"OrreryBox$Sight", "sideOf", "(II)J"⟩) ∈ gw := gw_s 13 (by decide +kernel) rfl
theorem zs_XSight_212 : zwV "OrreryBox$Sight" 212 "OrreryBox$Sight" zy_XSight_sideOf zb_XSight_sideOf 9 (some .long) := ⟨zw_729, zw_731, zv_13, zw_10, zc_XSight_sideOf⟩
theorem zw_734 : (Jvm.Cond.methodLink "OrreryBox$Sight" (216 : Nat) ({ cls := "OrreryBox$Sight", name := "putBetween", desc := "(IJIJI)V" } : Jvm.MethodName)) ∈ gw := gw_t 734 (by decide +kernel) rfl
theorem zw_736 : (Jvm.Cond.instanceMethod ({ cls := "OrreryBox$Sight", name := "putBetween", desc := "(IJIJI)V" } : Jvm.MethodName)) ∈ gw := gw_t 736 (by decide +kernel) rfl
theorem zv_14 : (Jvm.Cond.selects "OrreryBox$Sight" (⟨"OrreryBox$Sight", "putBetween", "(IJIJI)V"⟩ : MethodName) ⟨"OrreryBox$Sight", "putBetween", "(IJIJI)V"⟩) ∈ gw := gw_s 14 (by decide +kernel) rfl
theorem zs_XSight_216 : zwV "OrreryBox$Sight" 216 "OrreryBox$Sight" zy_XSight_putBetween zb_XSight_putBetween 13 none := ⟨zw_734, zw_736, zv_14, zw_10, zc_XSight_putBetween⟩
theorem zw_722 : (Jvm.Cond.methodLink "OrreryBox$Sight" (197 : Nat) ({ cls := "java/lang/System", name := "arraycopy", desc := "(Ljava/lang/Object;ILjava/lang/Object;II)V" } : Jvm.MethodName)) ∈ gw := gw_t 722 (by decide +kernel) rfl
def L_XSight_cutBySide_16 (sh : zSh) (fuel : Nat) (v0 : Nat) (v1 : Int32) (v2 : Int64) (v4 : Int64) (v6 : Int32) (v7 : Int32) (mm : zMem) : Option (Nat × Int32 × Int64 × Int64 × Int32 × Int32 × zMem) := match fuel with
  | 0 => none
  | fu + 1 => zoS (sh v0) 9 (fun le5 => (if (mm.1 v0 3) ≤ v7 then some (v0, v1, v2, v4, v6, v7, mm) else (if 24 < (v6 + 2) then some (v0, v1, v2, v4, v6, v7, mm) else zoS (sh v0) 9 (fun le9 => (if (mm.1 v0 3) ≤ (v7 + 1) then (if (lg_cmp v4 0) < 0 then (if (lg_cmp v4 0) < 0 then (if 0 ≤ (lg_cmp v4 0) then L_XSight_cutBySide_16 sh fu v0 v1 v2 v2 v6 (v7 + 1) mm else (if (lg_cmp v2 0) < 0 then L_XSight_cutBySide_16 sh fu v0 v1 v2 v2 v6 (v7 + 1) mm else zoS (sh v0) 9 (fun le16 => Option.bind (F_XSight_putBetween sh mm v0 (6 * 0) v2 (6 * v7) v4 (6 * v6)) (fun p17 => L_XSight_cutBySide_16 sh fu v0 v1 v2 v2 (v6 + 1) (v7 + 1) p17)))) else (if 0 ≤ (lg_cmp v2 0) then (if 0 ≤ (lg_cmp v4 0) then L_XSight_cutBySide_16 sh fu v0 v1 v2 v2 v6 (v7 + 1) mm else (if (lg_cmp v2 0) < 0 then L_XSight_cutBySide_16 sh fu v0 v1 v2 v2 v6 (v7 + 1) mm else zoS (sh v0) 9 (fun le22 => Option.bind (F_XSight_putBetween sh mm v0 (6 * 0) v2 (6 * v7) v4 (6 * v6)) (fun p23 => L_XSight_cutBySide_16 sh fu v0 v1 v2 v2 (v6 + 1) (v7 + 1) p23)))) else zoS (sh v0) 9 (fun le25 => Option.bind (F_XSight_putBetween sh mm v0 (6 * v7) v4 (6 * 0) v2 (6 * v6)) (fun p26 => L_XSight_cutBySide_16 sh fu v0 v1 v2 v2 (v6 + 1) (v7 + 1) p26)))) else zoS (sh v0) 9 (fun le28 => Option.bind (mm.2.2 v0 2) (fun a29 => zoS (sh v0) 9 (fun le31 => Option.bind (mm.2.2 v0 14) (fun a32 => zoL (6 * v6) (fun x33 => zoL (6 * v7) (fun x34 => zoS (sh a29) 100 (fun le35 => zoS (sh a32) 100 (fun le37 => if ¬ (x34 : Int32) < 0 ∧ ¬ (x33 : Int32) < 0 ∧ ¬ (6 : Int32) < 0 ∧ (x34 : Int32).toNatClampNeg + (6 : Int32).toNatClampNeg ≤ le35 ∧ (x33 : Int32).toNatClampNeg + (6 : Int32).toNatClampNeg ≤ le37 then zoL (mC mm a29 a32 (x34 : Int32).toNatClampNeg (x33 : Int32).toNatClampNeg (6 : Int32).toNatClampNeg) (fun mm40 => (if (lg_cmp v4 0) < 0 then (if 0 ≤ (lg_cmp v4 0) then L_XSight_cutBySide_16 sh fu v0 v1 v2 v2 (v6 + 1) (v7 + 1) mm40 else (if (lg_cmp v2 0) < 0 then L_XSight_cutBySide_16 sh fu v0 v1 v2 v2 (v6 + 1) (v7 + 1) mm40 else zoS (sh v0) 9 (fun le45 => Option.bind (F_XSight_putBetween sh mm40 v0 (6 * 0) v2 (6 * v7) v4 (6 * (v6 + 1))) (fun p46 => L_XSight_cutBySide_16 sh fu v0 v1 v2 v2 ((v6 + 1) + 1) (v7 + 1) p46)))) else (if 0 ≤ (lg_cmp v2 0) then (if 0 ≤ (lg_cmp v4 0) then L_XSight_cutBySide_16 sh fu v0 v1 v2 v2 (v6 + 1) (v7 + 1) mm40 else (if (lg_cmp v2 0) < 0 then L_XSight_cutBySide_16 sh fu v0 v1 v2 v2 (v6 + 1) (v7 + 1) mm40 else zoS (sh v0) 9 (fun le51 => Option.bind (F_XSight_putBetween sh mm40 v0 (6 * 0) v2 (6 * v7) v4 (6 * (v6 + 1))) (fun p52 => L_XSight_cutBySide_16 sh fu v0 v1 v2 v2 ((v6 + 1) + 1) (v7 + 1) p52)))) else zoS (sh v0) 9 (fun le54 => Option.bind (F_XSight_putBetween sh mm40 v0 (6 * v7) v4 (6 * 0) v2 (6 * (v6 + 1))) (fun p55 => L_XSight_cutBySide_16 sh fu v0 v1 v2 v2 ((v6 + 1) + 1) (v7 + 1) p55))))) else none))))))))) else zoL (v7 + 1) (fun x56 => (if x56 = 0 then (if (lg_cmp v4 0) < 0 then (if (lg_cmp v4 0) < 0 then (if 0 ≤ (lg_cmp v4 0) then L_XSight_cutBySide_16 sh fu v0 v1 v2 v2 v6 (v7 + 1) mm else (if (lg_cmp v2 0) < 0 then L_XSight_cutBySide_16 sh fu v0 v1 v2 v2 v6 (v7 + 1) mm else zoS (sh v0) 9 (fun le111 => Option.bind (F_XSight_putBetween sh mm v0 (6 * x56) v2 (6 * v7) v4 (6 * v6)) (fun p112 => L_XSight_cutBySide_16 sh fu v0 v1 v2 v2 (v6 + 1) (v7 + 1) p112)))) else (if 0 ≤ (lg_cmp v2 0) then (if 0 ≤ (lg_cmp v4 0) then L_XSight_cutBySide_16 sh fu v0 v1 v2 v2 v6 (v7 + 1) mm else (if (lg_cmp v2 0) < 0 then L_XSight_cutBySide_16 sh fu v0 v1 v2 v2 v6 (v7 + 1) mm else zoS (sh v0) 9 (fun le117 => Option.bind (F_XSight_putBetween sh mm v0 (6 * x56) v2 (6 * v7) v4 (6 * v6)) (fun p118 => L_XSight_cutBySide_16 sh fu v0 v1 v2 v2 (v6 + 1) (v7 + 1) p118)))) else zoS (sh v0) 9 (fun le120 => Option.bind (F_XSight_putBetween sh mm v0 (6 * v7) v4 (6 * x56) v2 (6 * v6)) (fun p121 => L_XSight_cutBySide_16 sh fu v0 v1 v2 v2 (v6 + 1) (v7 + 1) p121)))) else zoS (sh v0) 9 (fun le123 => Option.bind (mm.2.2 v0 2) (fun a124 => zoS (sh v0) 9 (fun le126 => Option.bind (mm.2.2 v0 14) (fun a127 => zoL (6 * v6) (fun x128 => zoL (6 * v7) (fun x129 => zoS (sh a124) 100 (fun le130 => zoS (sh a127) 100 (fun le132 => if ¬ (x129 : Int32) < 0 ∧ ¬ (x128 : Int32) < 0 ∧ ¬ (6 : Int32) < 0 ∧ (x129 : Int32).toNatClampNeg + (6 : Int32).toNatClampNeg ≤ le130 ∧ (x128 : Int32).toNatClampNeg + (6 : Int32).toNatClampNeg ≤ le132 then zoL (mC mm a124 a127 (x129 : Int32).toNatClampNeg (x128 : Int32).toNatClampNeg (6 : Int32).toNatClampNeg) (fun mm135 => (if (lg_cmp v4 0) < 0 then (if 0 ≤ (lg_cmp v4 0) then L_XSight_cutBySide_16 sh fu v0 v1 v2 v2 (v6 + 1) (v7 + 1) mm135 else (if (lg_cmp v2 0) < 0 then L_XSight_cutBySide_16 sh fu v0 v1 v2 v2 (v6 + 1) (v7 + 1) mm135 else zoS (sh v0) 9 (fun le140 => Option.bind (F_XSight_putBetween sh mm135 v0 (6 * x56) v2 (6 * v7) v4 (6 * (v6 + 1))) (fun p141 => L_XSight_cutBySide_16 sh fu v0 v1 v2 v2 ((v6 + 1) + 1) (v7 + 1) p141)))) else (if 0 ≤ (lg_cmp v2 0) then (if 0 ≤ (lg_cmp v4 0) then L_XSight_cutBySide_16 sh fu v0 v1 v2 v2 (v6 + 1) (v7 + 1) mm135 else (if (lg_cmp v2 0) < 0 then L_XSight_cutBySide_16 sh fu v0 v1 v2 v2 (v6 + 1) (v7 + 1) mm135 else zoS (sh v0) 9 (fun le146 => Option.bind (F_XSight_putBetween sh mm135 v0 (6 * x56) v2 (6 * v7) v4 (6 * (v6 + 1))) (fun p147 => L_XSight_cutBySide_16 sh fu v0 v1 v2 v2 ((v6 + 1) + 1) (v7 + 1) p147)))) else zoS (sh v0) 9 (fun le149 => Option.bind (F_XSight_putBetween sh mm135 v0 (6 * v7) v4 (6 * x56) v2 (6 * (v6 + 1))) (fun p150 => L_XSight_cutBySide_16 sh fu v0 v1 v2 v2 ((v6 + 1) + 1) (v7 + 1) p150))))) else none))))))))) else zoS (sh v0) 9 (fun le59 => Option.bind (F_XSight_sideOf sh mm v0 v1 x56) (fun p60 => (if (lg_cmp v4 0) < 0 then (if (lg_cmp v4 0) < 0 then (if 0 ≤ (lg_cmp v4 0) then L_XSight_cutBySide_16 sh fu v0 v1 v2 (p60.1) v6 (v7 + 1) (p60.2) else (if (lg_cmp p60.1 0) < 0 then L_XSight_cutBySide_16 sh fu v0 v1 v2 (p60.1) v6 (v7 + 1) (p60.2) else zoS (sh v0) 9 (fun le66 => Option.bind (F_XSight_putBetween sh (p60.2) v0 (6 * x56) (p60.1) (6 * v7) v4 (6 * v6)) (fun p67 => L_XSight_cutBySide_16 sh fu v0 v1 v2 (p60.1) (v6 + 1) (v7 + 1) p67)))) else (if 0 ≤ (lg_cmp p60.1 0) then (if 0 ≤ (lg_cmp v4 0) then L_XSight_cutBySide_16 sh fu v0 v1 v2 (p60.1) v6 (v7 + 1) (p60.2) else (if (lg_cmp p60.1 0) < 0 then L_XSight_cutBySide_16 sh fu v0 v1 v2 (p60.1) v6 (v7 + 1) (p60.2) else zoS (sh v0) 9 (fun le72 => Option.bind (F_XSight_putBetween sh (p60.2) v0 (6 * x56) (p60.1) (6 * v7) v4 (6 * v6)) (fun p73 => L_XSight_cutBySide_16 sh fu v0 v1 v2 (p60.1) (v6 + 1) (v7 + 1) p73)))) else zoS (sh v0) 9 (fun le75 => Option.bind (F_XSight_putBetween sh (p60.2) v0 (6 * v7) v4 (6 * x56) (p60.1) (6 * v6)) (fun p76 => L_XSight_cutBySide_16 sh fu v0 v1 v2 (p60.1) (v6 + 1) (v7 + 1) p76)))) else zoS (sh v0) 9 (fun le78 => Option.bind ((p60.2).2.2 v0 2) (fun a79 => zoS (sh v0) 9 (fun le81 => Option.bind ((p60.2).2.2 v0 14) (fun a82 => zoL (6 * v6) (fun x83 => zoL (6 * v7) (fun x84 => zoS (sh a79) 100 (fun le85 => zoS (sh a82) 100 (fun le87 => if ¬ (x84 : Int32) < 0 ∧ ¬ (x83 : Int32) < 0 ∧ ¬ (6 : Int32) < 0 ∧ (x84 : Int32).toNatClampNeg + (6 : Int32).toNatClampNeg ≤ le85 ∧ (x83 : Int32).toNatClampNeg + (6 : Int32).toNatClampNeg ≤ le87 then zoL (mC (p60.2) a79 a82 (x84 : Int32).toNatClampNeg (x83 : Int32).toNatClampNeg (6 : Int32).toNatClampNeg) (fun mm90 => (if (lg_cmp v4 0) < 0 then (if 0 ≤ (lg_cmp v4 0) then L_XSight_cutBySide_16 sh fu v0 v1 v2 (p60.1) (v6 + 1) (v7 + 1) mm90 else (if (lg_cmp p60.1 0) < 0 then L_XSight_cutBySide_16 sh fu v0 v1 v2 (p60.1) (v6 + 1) (v7 + 1) mm90 else zoS (sh v0) 9 (fun le95 => Option.bind (F_XSight_putBetween sh mm90 v0 (6 * x56) (p60.1) (6 * v7) v4 (6 * (v6 + 1))) (fun p96 => L_XSight_cutBySide_16 sh fu v0 v1 v2 (p60.1) ((v6 + 1) + 1) (v7 + 1) p96)))) else (if 0 ≤ (lg_cmp p60.1 0) then (if 0 ≤ (lg_cmp v4 0) then L_XSight_cutBySide_16 sh fu v0 v1 v2 (p60.1) (v6 + 1) (v7 + 1) mm90 else (if (lg_cmp p60.1 0) < 0 then L_XSight_cutBySide_16 sh fu v0 v1 v2 (p60.1) (v6 + 1) (v7 + 1) mm90 else zoS (sh v0) 9 (fun le101 => Option.bind (F_XSight_putBetween sh mm90 v0 (6 * x56) (p60.1) (6 * v7) v4 (6 * (v6 + 1))) (fun p102 => L_XSight_cutBySide_16 sh fu v0 v1 v2 (p60.1) ((v6 + 1) + 1) (v7 + 1) p102)))) else zoS (sh v0) 9 (fun le104 => Option.bind (F_XSight_putBetween sh mm90 v0 (6 * v7) v4 (6 * x56) (p60.1) (6 * (v6 + 1))) (fun p105 => L_XSight_cutBySide_16 sh fu v0 v1 v2 (p60.1) ((v6 + 1) + 1) (v7 + 1) p105))))) else none))))))))))))))))))
set_option maxHeartbeats 4000000 in
set_option maxRecDepth 100000 in
theorem lp_XSight_cutBySide_16 {p : Program} {l : Launch} {e : Env} {s : State} {m : MethodId} {args : Array Value} {below : List Frame} {meth : Method} {c : Code} {D : va_G} {tA : Nat → ClassId} {b n : Nat} {post : Option Value → zV → Nat → Prop} {sh : zSh} (F : zF p s m args meth c zb_XSight_cutBySide 11 "OrreryBox$Sight" D tA b) : ∀ (fuel : Nat) (v0 : Nat) (v1 : Int32) (v2 : Int64) (v4 : Int64) (v6 : Int32) (v7 : Int32) (mm : zMem) (r : Nat × Int32 × Int64 × Int64 × Int32 × Int32 × zMem), L_XSight_cutBySide_16 sh fuel v0 v1 v2 v4 v6 v7 mm = some r → (Z p l e { frames := 2, cells := 0, slots := 0, locals := 60 } s m args below meth c D b 11 (MQ below (zQ D b post) args s 0 0 (fun q => b ≤ q)) (zW tA b sh r.2.2.2.2.2.2) n 0 0 199 [(0, .ref (b + (r.1))), (1, .int (r.2.1)), (2, .long (r.2.2.1)), (4, .long (r.2.2.2.1)), (6, .int (r.2.2.2.2.1)), (7, .int (r.2.2.2.2.2.1))] []) → Z p l e { frames := 2, cells := 0, slots := 0, locals := 60 } s m args below meth c D b 11 (MQ below (zQ D b post) args s 0 0 (fun q => b ≤ q)) (zW tA b sh mm) n 0 0 16 [(0, .ref (b + v0)), (1, .int v1), (2, .long v2), (4, .long v4), (6, .int v6), (7, .int v7)] [] := by
  intro fuel
  induction fuel with
  | zero =>
    intro v0 v1 v2 v4 v6 v7 mm r h
    cases h
  | succ fu ih =>
    intro v0 v1 v2 v4 v6 v7 mm r h hx0
    rw [L_XSight_cutBySide_16] at h
    refine zr_iload F zd_XSight_cutBySide_16 rfl ?_
    refine zr_aload_n F zd_XSight_cutBySide_18 rfl ?_
    obtain ⟨le5, hs4, h⟩ := zoS_s h
    refine zr_get F 9 3 zd_XSight_cutBySide_19 (zW_o hs4 (by decide)) rfl (by decide) zw_376 rfl (by rfl) ?_
    refine zr_icmp_ge F 199 zd_XSight_cutBySide_22 (by decide) (fun hb6 => ?_) (fun hb6 => ?_)
    ·
      replace h := (if_pos hb6).symm.trans h
      obtain rfl := Option.some.inj h
      refine zr_loc (L' := [(0, .ref (b + v0)), (1, .int v1), (2, .long v2), (4, .long v4), (6, .int v6), (7, .int v7)]) ⟨rfl, rfl, rfl, rfl, rfl, rfl, trivial⟩ ?_
      exact hx0 
    ·
      replace h := (if_neg hb6).symm.trans h
      refine zr_pcn 25 rfl ?_
      refine zr_iload F zd_XSight_cutBySide_25 rfl ?_
      refine zr_iconstv (v := 2) F zd_XSight_cutBySide_27 (by decide) ?_
      refine zr_iadd F zd_XSight_cutBySide_28 ?_
      refine zr_bipushv (v := 24) F zd_XSight_cutBySide_29 (by decide) ?_
      refine zr_icmp_gt F 199 zd_XSight_cutBySide_31 (by decide) (fun hb7 => ?_) (fun hb7 => ?_)
      ·
        replace h := (if_pos hb7).symm.trans h
        obtain rfl := Option.some.inj h
        refine zr_loc (L' := [(0, .ref (b + v0)), (1, .int v1), (2, .long v2), (4, .long v4), (6, .int v6), (7, .int v7)]) ⟨rfl, rfl, rfl, rfl, rfl, rfl, trivial⟩ ?_
        exact hx0 
      ·
        replace h := (if_neg hb7).symm.trans h
        refine zr_iload F zd_XSight_cutBySide_34 rfl ?_
        refine zr_iconstv (v := 1) F zd_XSight_cutBySide_36 (by decide) ?_
        refine zr_iadd F zd_XSight_cutBySide_37 ?_
        refine zr_pcn 38 rfl ?_
        refine zr_aload_n F zd_XSight_cutBySide_38 rfl ?_
        obtain ⟨le9, hs8, h⟩ := zoS_s h
        refine zr_get F 9 3 zd_XSight_cutBySide_39 (zW_o hs8 (by decide)) rfl (by decide) zw_376 rfl (by rfl) ?_
        refine zr_icmp_ge F 52 zd_XSight_cutBySide_42 (by decide) (fun hb10 => ?_) (fun hb10 => ?_)
        ·
          replace h := (if_pos hb10).symm.trans h
          refine zr_iconstv (v := 0) F zd_XSight_cutBySide_52 (by decide) ?_
          refine zr_istore F zd_XSight_cutBySide_53 (by decide) ?_
          refine zr_iload F zd_XSight_cutBySide_55 rfl ?_
          refine zr_if_ne F 64 zd_XSight_cutBySide_57 (by decide) (fun hq => absurd hq (by decide)) (fun _ => ?_)
          refine zr_lload_n F zd_XSight_cutBySide_60 rfl ?_
          refine zr_pcn 61 rfl ?_
          refine zr_goto F 71 zd_XSight_cutBySide_61 (by decide) ?_
          refine zr_lstore F zd_XSight_cutBySide_71 (by decide) ?_
          refine zr_lload F zd_XSight_cutBySide_73 rfl ?_
          refine zr_lconstv (v := 0) F zd_XSight_cutBySide_75 (by decide) ?_
          refine zr_lcmp F zd_XSight_cutBySide_76 ?_
          refine zr_if_lt F 106 zd_XSight_cutBySide_77 (by decide) (fun hb11 => ?_) (fun hb11 => ?_)
          ·
            replace h := (if_pos hb11).symm.trans h
            refine zr_lload F zd_XSight_cutBySide_106 rfl ?_
            refine zr_lconstv (v := 0) F zd_XSight_cutBySide_108 (by decide) ?_
            refine zr_pcn 109 rfl ?_
            refine zr_lcmp F zd_XSight_cutBySide_109 ?_
            refine zr_if_lt F 149 zd_XSight_cutBySide_110 (by decide) (fun hb12 => ?_) (fun hb12 => ?_)
            ·
              replace h := (if_pos hb12).symm.trans h
              refine zr_lload F zd_XSight_cutBySide_149 rfl ?_
              refine zr_lconstv (v := 0) F zd_XSight_cutBySide_151 (by decide) ?_
              refine zr_lcmp F zd_XSight_cutBySide_152 ?_
              refine zr_if_ge F 189 zd_XSight_cutBySide_153 (by decide) (fun hb13 => ?_) (fun hb13 => ?_)
              ·
                replace h := (if_pos hb13).symm.trans h
                refine zr_lload F zd_XSight_cutBySide_189 rfl ?_
                refine zr_lstore F zd_XSight_cutBySide_191 (by decide) ?_
                refine zr_loc (L' := [(0, .ref (b + v0)), (1, .int v1), (2, .long v2), (4, .long v2), (6, .int v6), (7, .int v7)]) ⟨rfl, rfl, rfl, rfl, rfl, rfl, trivial⟩ ?_
                refine zr_pcn 193 rfl ?_
                refine zr_iinc (v := (v7 + 1)) F zd_XSight_cutBySide_193 rfl rfl (by decide) ?_
                refine zr_goto F 16 zd_XSight_cutBySide_196 (by decide) ?_
                refine zr_loc (L' := [(0, .ref (b + v0)), (1, .int v1), (2, .long v2), (4, .long v2), (6, .int v6), (7, .int (v7 + 1))]) ⟨rfl, rfl, rfl, rfl, rfl, rfl, trivial⟩ ?_
                exact ih _ _ _ _ _ _ _ _ h hx0
              ·
                replace h := (if_neg hb13).symm.trans h
                refine zr_lload F zd_XSight_cutBySide_156 rfl ?_
                refine zr_lconstv (v := 0) F zd_XSight_cutBySide_158 (by decide) ?_
                refine zr_lcmp F zd_XSight_cutBySide_159 ?_
                refine zr_if_lt F 189 zd_XSight_cutBySide_160 (by decide) (fun hb14 => ?_) (fun hb14 => ?_)
                ·
                  replace h := (if_pos hb14).symm.trans h
                  refine zr_lload F zd_XSight_cutBySide_189 rfl ?_
                  refine zr_lstore F zd_XSight_cutBySide_191 (by decide) ?_
                  refine zr_loc (L' := [(0, .ref (b + v0)), (1, .int v1), (2, .long v2), (4, .long v2), (6, .int v6), (7, .int v7)]) ⟨rfl, rfl, rfl, rfl, rfl, rfl, trivial⟩ ?_
                  refine zr_pcn 193 rfl ?_
                  refine zr_iinc (v := (v7 + 1)) F zd_XSight_cutBySide_193 rfl rfl (by decide) ?_
                  refine zr_goto F 16 zd_XSight_cutBySide_196 (by decide) ?_
                  refine zr_loc (L' := [(0, .ref (b + v0)), (1, .int v1), (2, .long v2), (4, .long v2), (6, .int v6), (7, .int (v7 + 1))]) ⟨rfl, rfl, rfl, rfl, rfl, rfl, trivial⟩ ?_
                  exact ih _ _ _ _ _ _ _ _ h hx0
                ·
                  replace h := (if_neg hb14).symm.trans h
                  refine zr_aload_n F zd_XSight_cutBySide_163 rfl ?_
                  refine zr_bipushv (v := 6) F zd_XSight_cutBySide_164 (by decide) ?_
                  refine zr_iload F zd_XSight_cutBySide_166 rfl ?_
                  refine zr_imul F zd_XSight_cutBySide_168 ?_
                  refine zr_lload F zd_XSight_cutBySide_169 rfl ?_
                  refine zr_bipushv (v := 6) F zd_XSight_cutBySide_171 (by decide) ?_
                  refine zr_pcn 173 rfl ?_
                  refine zr_iload F zd_XSight_cutBySide_173 rfl ?_
                  refine zr_imul F zd_XSight_cutBySide_175 ?_
                  refine zr_lload F zd_XSight_cutBySide_176 rfl ?_
                  refine zr_bipushv (v := 6) F zd_XSight_cutBySide_178 (by decide) ?_
                  refine zr_iload F zd_XSight_cutBySide_180 rfl ?_
                  refine zr_imul F zd_XSight_cutBySide_182 ?_
                  obtain ⟨le16, hs15, h⟩ := zoS_s h
                  obtain ⟨p17, ep17, h⟩ := zoB_s h
                  refine zr_callV0 F (k_XSight_putBetween l D tA b sh _ ep17) zd_XSight_cutBySide_183 (zW_o hs15 (by decide)) rfl zs_XSight_216 rfl zq_XSight_putBetween rfl rfl ⟨(Nat.le_of_ble_eq_true rfl), (Nat.le_of_ble_eq_true rfl)⟩ (Nat.le_of_ble_eq_true rfl) ⟨(Nat.le_of_ble_eq_true rfl), (Nat.le_of_ble_eq_true rfl)⟩ ?_
                  refine zr_iinc (v := (v6 + 1)) F zd_XSight_cutBySide_186 rfl rfl (by decide) ?_
                  refine zr_loc (L' := [(0, .ref (b + v0)), (1, .int v1), (2, .long v2), (4, .long v4), (6, .int (v6 + 1)), (7, .int v7), (9, .long v2)]) ⟨rfl, rfl, rfl, rfl, rfl, rfl, rfl, trivial⟩ ?_
                  refine zr_pcn 189 rfl ?_
                  refine zr_lload F zd_XSight_cutBySide_189 rfl ?_
                  refine zr_lstore F zd_XSight_cutBySide_191 (by decide) ?_
                  refine zr_iinc (v := (v7 + 1)) F zd_XSight_cutBySide_193 rfl rfl (by decide) ?_
                  refine zr_goto F 16 zd_XSight_cutBySide_196 (by decide) ?_
                  refine zr_loc (L' := [(0, .ref (b + v0)), (1, .int v1), (2, .long v2), (4, .long v2), (6, .int (v6 + 1)), (7, .int (v7 + 1))]) ⟨rfl, rfl, rfl, rfl, rfl, rfl, trivial⟩ ?_
                  exact ih _ _ _ _ _ _ _ _ h hx0
            ·
              replace h := (if_neg hb12).symm.trans h
              refine zr_lload F zd_XSight_cutBySide_113 rfl ?_
              refine zr_lconstv (v := 0) F zd_XSight_cutBySide_115 (by decide) ?_
              refine zr_lcmp F zd_XSight_cutBySide_116 ?_
              refine zr_if_ge F 149 zd_XSight_cutBySide_117 (by decide) (fun hb18 => ?_) (fun hb18 => ?_)
              ·
                replace h := (if_pos hb18).symm.trans h
                refine zr_pcn 149 rfl ?_
                refine zr_lload F zd_XSight_cutBySide_149 rfl ?_
                refine zr_lconstv (v := 0) F zd_XSight_cutBySide_151 (by decide) ?_
                refine zr_lcmp F zd_XSight_cutBySide_152 ?_
                refine zr_if_ge F 189 zd_XSight_cutBySide_153 (by decide) (fun hb19 => ?_) (fun hb19 => ?_)
                ·
                  replace h := (if_pos hb19).symm.trans h
                  refine zr_lload F zd_XSight_cutBySide_189 rfl ?_
                  refine zr_lstore F zd_XSight_cutBySide_191 (by decide) ?_
                  refine zr_loc (L' := [(0, .ref (b + v0)), (1, .int v1), (2, .long v2), (4, .long v2), (6, .int v6), (7, .int v7)]) ⟨rfl, rfl, rfl, rfl, rfl, rfl, trivial⟩ ?_
                  refine zr_iinc (v := (v7 + 1)) F zd_XSight_cutBySide_193 rfl rfl (by decide) ?_
                  refine zr_goto F 16 zd_XSight_cutBySide_196 (by decide) ?_
                  refine zr_loc (L' := [(0, .ref (b + v0)), (1, .int v1), (2, .long v2), (4, .long v2), (6, .int v6), (7, .int (v7 + 1))]) ⟨rfl, rfl, rfl, rfl, rfl, rfl, trivial⟩ ?_
                  exact ih _ _ _ _ _ _ _ _ h hx0
                ·
                  replace h := (if_neg hb19).symm.trans h
                  refine zr_pcn 156 rfl ?_
                  refine zr_lload F zd_XSight_cutBySide_156 rfl ?_
                  refine zr_lconstv (v := 0) F zd_XSight_cutBySide_158 (by decide) ?_
                  refine zr_lcmp F zd_XSight_cutBySide_159 ?_
                  refine zr_if_lt F 189 zd_XSight_cutBySide_160 (by decide) (fun hb20 => ?_) (fun hb20 => ?_)
                  ·
                    replace h := (if_pos hb20).symm.trans h
                    refine zr_lload F zd_XSight_cutBySide_189 rfl ?_
                    refine zr_lstore F zd_XSight_cutBySide_191 (by decide) ?_
                    refine zr_loc (L' := [(0, .ref (b + v0)), (1, .int v1), (2, .long v2), (4, .long v2), (6, .int v6), (7, .int v7)]) ⟨rfl, rfl, rfl, rfl, rfl, rfl, trivial⟩ ?_
                    refine zr_iinc (v := (v7 + 1)) F zd_XSight_cutBySide_193 rfl rfl (by decide) ?_
                    refine zr_goto F 16 zd_XSight_cutBySide_196 (by decide) ?_
                    refine zr_loc (L' := [(0, .ref (b + v0)), (1, .int v1), (2, .long v2), (4, .long v2), (6, .int v6), (7, .int (v7 + 1))]) ⟨rfl, rfl, rfl, rfl, rfl, rfl, trivial⟩ ?_
                    exact ih _ _ _ _ _ _ _ _ h hx0
                  ·
                    replace h := (if_neg hb20).symm.trans h
                    refine zr_pcn 163 rfl ?_
                    refine zr_aload_n F zd_XSight_cutBySide_163 rfl ?_
                    refine zr_bipushv (v := 6) F zd_XSight_cutBySide_164 (by decide) ?_
                    refine zr_iload F zd_XSight_cutBySide_166 rfl ?_
                    refine zr_imul F zd_XSight_cutBySide_168 ?_
                    refine zr_lload F zd_XSight_cutBySide_169 rfl ?_
                    refine zr_bipushv (v := 6) F zd_XSight_cutBySide_171 (by decide) ?_
                    refine zr_iload F zd_XSight_cutBySide_173 rfl ?_
                    refine zr_imul F zd_XSight_cutBySide_175 ?_
                    refine zr_pcn 176 rfl ?_
                    refine zr_lload F zd_XSight_cutBySide_176 rfl ?_
                    refine zr_bipushv (v := 6) F zd_XSight_cutBySide_178 (by decide) ?_
                    refine zr_iload F zd_XSight_cutBySide_180 rfl ?_
                    refine zr_imul F zd_XSight_cutBySide_182 ?_
                    obtain ⟨le22, hs21, h⟩ := zoS_s h
                    obtain ⟨p23, ep23, h⟩ := zoB_s h
                    refine zr_callV0 F (k_XSight_putBetween l D tA b sh _ ep23) zd_XSight_cutBySide_183 (zW_o hs21 (by decide)) rfl zs_XSight_216 rfl zq_XSight_putBetween rfl rfl ⟨(Nat.le_of_ble_eq_true rfl), (Nat.le_of_ble_eq_true rfl)⟩ (Nat.le_of_ble_eq_true rfl) ⟨(Nat.le_of_ble_eq_true rfl), (Nat.le_of_ble_eq_true rfl)⟩ ?_
                    refine zr_iinc (v := (v6 + 1)) F zd_XSight_cutBySide_186 rfl rfl (by decide) ?_
                    refine zr_loc (L' := [(0, .ref (b + v0)), (1, .int v1), (2, .long v2), (4, .long v4), (6, .int (v6 + 1)), (7, .int v7), (9, .long v2)]) ⟨rfl, rfl, rfl, rfl, rfl, rfl, rfl, trivial⟩ ?_
                    refine zr_lload F zd_XSight_cutBySide_189 rfl ?_
                    refine zr_lstore F zd_XSight_cutBySide_191 (by decide) ?_
                    refine zr_pcn 193 rfl ?_
                    refine zr_iinc (v := (v7 + 1)) F zd_XSight_cutBySide_193 rfl rfl (by decide) ?_
                    refine zr_goto F 16 zd_XSight_cutBySide_196 (by decide) ?_
                    refine zr_loc (L' := [(0, .ref (b + v0)), (1, .int v1), (2, .long v2), (4, .long v2), (6, .int (v6 + 1)), (7, .int (v7 + 1))]) ⟨rfl, rfl, rfl, rfl, rfl, rfl, trivial⟩ ?_
                    exact ih _ _ _ _ _ _ _ _ h hx0
              ·
                replace h := (if_neg hb18).symm.trans h
                refine zr_aload_n F zd_XSight_cutBySide_120 rfl ?_
                refine zr_bipushv (v := 6) F zd_XSight_cutBySide_121 (by decide) ?_
                refine zr_iload F zd_XSight_cutBySide_123 rfl ?_
                refine zr_imul F zd_XSight_cutBySide_125 ?_
                refine zr_lload F zd_XSight_cutBySide_126 rfl ?_
                refine zr_bipushv (v := 6) F zd_XSight_cutBySide_128 (by decide) ?_
                refine zr_pcn 130 rfl ?_
                refine zr_iload F zd_XSight_cutBySide_130 rfl ?_
                refine zr_imul F zd_XSight_cutBySide_132 ?_
                refine zr_lload F zd_XSight_cutBySide_133 rfl ?_
                refine zr_bipushv (v := 6) F zd_XSight_cutBySide_135 (by decide) ?_
                refine zr_iload F zd_XSight_cutBySide_137 rfl ?_
                refine zr_imul F zd_XSight_cutBySide_139 ?_
                obtain ⟨le25, hs24, h⟩ := zoS_s h
                obtain ⟨p26, ep26, h⟩ := zoB_s h
                refine zr_callV0 F (k_XSight_putBetween l D tA b sh _ ep26) zd_XSight_cutBySide_140 (zW_o hs24 (by decide)) rfl zs_XSight_216 rfl zq_XSight_putBetween rfl rfl ⟨(Nat.le_of_ble_eq_true rfl), (Nat.le_of_ble_eq_true rfl)⟩ (Nat.le_of_ble_eq_true rfl) ⟨(Nat.le_of_ble_eq_true rfl), (Nat.le_of_ble_eq_true rfl)⟩ ?_
                refine zr_iinc (v := (v6 + 1)) F zd_XSight_cutBySide_143 rfl rfl (by decide) ?_
                refine zr_loc (L' := [(0, .ref (b + v0)), (1, .int v1), (2, .long v2), (4, .long v4), (6, .int (v6 + 1)), (7, .int v7), (9, .long v2)]) ⟨rfl, rfl, rfl, rfl, rfl, rfl, rfl, trivial⟩ ?_
                refine zr_pcn 146 rfl ?_
                refine zr_goto F 189 zd_XSight_cutBySide_146 (by decide) ?_
                refine zr_lload F zd_XSight_cutBySide_189 rfl ?_
                refine zr_lstore F zd_XSight_cutBySide_191 (by decide) ?_
                refine zr_iinc (v := (v7 + 1)) F zd_XSight_cutBySide_193 rfl rfl (by decide) ?_
                refine zr_goto F 16 zd_XSight_cutBySide_196 (by decide) ?_
                refine zr_loc (L' := [(0, .ref (b + v0)), (1, .int v1), (2, .long v2), (4, .long v2), (6, .int (v6 + 1)), (7, .int (v7 + 1))]) ⟨rfl, rfl, rfl, rfl, rfl, rfl, trivial⟩ ?_
                exact ih _ _ _ _ _ _ _ _ h hx0
          ·
            replace h := (if_neg hb11).symm.trans h
            refine zr_aload_n F zd_XSight_cutBySide_80 rfl ?_
            obtain ⟨le28, hs27, h⟩ := zoS_s h
            obtain ⟨a29, ea29, h⟩ := zoB_s h
            refine zr_get F 9 2 zd_XSight_cutBySide_81 (zW_o hs27 (by decide)) rfl (by decide) zw_375 rfl (by rfl) ?_
            refine zr_tor ea29 ?_
            refine zr_bipushv (v := 6) F zd_XSight_cutBySide_84 (by decide) ?_
            refine zr_pcn 86 rfl ?_
            refine zr_iload F zd_XSight_cutBySide_86 rfl ?_
            refine zr_imul F zd_XSight_cutBySide_88 ?_
            refine zr_aload_n F zd_XSight_cutBySide_89 rfl ?_
            obtain ⟨le31, hs30, h⟩ := zoS_s h
            obtain ⟨a32, ea32, h⟩ := zoB_s h
            refine zr_get F 9 14 zd_XSight_cutBySide_90 (zW_o hs30 (by decide)) rfl (by decide) zw_387 rfl (by rfl) ?_
            refine zr_tor ea32 ?_
            refine zr_bipushv (v := 6) F zd_XSight_cutBySide_93 (by decide) ?_
            refine zr_iload F zd_XSight_cutBySide_95 rfl ?_
            refine zr_imul F zd_XSight_cutBySide_97 ?_
            refine zr_bipushv (v := 6) F zd_XSight_cutBySide_98 (by decide) ?_
            refine zr_pcn 100 rfl ?_
            obtain ⟨x33, ex33, h⟩ := zoL_s h
            rw [← ex33]
            obtain ⟨x34, ex34, h⟩ := zoL_s h
            rw [← ex34]
            obtain ⟨le35, hs36, h⟩ := zoS_s h
            obtain ⟨le37, hs38, h⟩ := zoS_s h
            obtain ⟨hc39, h⟩ := zoT_s h
            obtain ⟨mm40, emm40, h⟩ := zoL_s h
            refine zr_copy F zd_XSight_cutBySide_100 zw_722 zw_724 zw_723 zw_26 (zW_a0 hs36) (zW_a0 hs38) hc39.1 hc39.2.1 hc39.2.2.1 hc39.2.2.2.1 hc39.2.2.2.2 (Nat.le_of_ble_eq_true rfl) (Nat.le_of_ble_eq_true rfl) ?_
            refine zr_norm (zW tA b sh mm40) _ (by rw [emm40]; exact zW_c hs38) rfl ?_
            refine zr_iinc (v := (v6 + 1)) F zd_XSight_cutBySide_103 rfl rfl (by decide) ?_
            refine zr_loc (L' := [(0, .ref (b + v0)), (1, .int v1), (2, .long v2), (4, .long v4), (6, .int (v6 + 1)), (7, .int v7), (8, .int 0), (9, .long v2)]) ⟨rfl, rfl, rfl, rfl, rfl, rfl, rfl, rfl, trivial⟩ ?_
            refine zr_lload F zd_XSight_cutBySide_106 rfl ?_
            refine zr_lconstv (v := 0) F zd_XSight_cutBySide_108 (by decide) ?_
            refine zr_lcmp F zd_XSight_cutBySide_109 ?_
            refine zr_if_lt F 149 zd_XSight_cutBySide_110 (by decide) (fun hb41 => ?_) (fun hb41 => ?_)
            ·
              replace h := (if_pos hb41).symm.trans h
              refine zr_lload F zd_XSight_cutBySide_149 rfl ?_
              refine zr_lconstv (v := 0) F zd_XSight_cutBySide_151 (by decide) ?_
              refine zr_pcn 152 rfl ?_
              refine zr_lcmp F zd_XSight_cutBySide_152 ?_
              refine zr_if_ge F 189 zd_XSight_cutBySide_153 (by decide) (fun hb42 => ?_) (fun hb42 => ?_)
              ·
                replace h := (if_pos hb42).symm.trans h
                refine zr_lload F zd_XSight_cutBySide_189 rfl ?_
                refine zr_lstore F zd_XSight_cutBySide_191 (by decide) ?_
                refine zr_iinc (v := (v7 + 1)) F zd_XSight_cutBySide_193 rfl rfl (by decide) ?_
                refine zr_goto F 16 zd_XSight_cutBySide_196 (by decide) ?_
                refine zr_loc (L' := [(0, .ref (b + v0)), (1, .int v1), (2, .long v2), (4, .long v2), (6, .int (v6 + 1)), (7, .int (v7 + 1))]) ⟨rfl, rfl, rfl, rfl, rfl, rfl, trivial⟩ ?_
                exact ih _ _ _ _ _ _ _ _ h hx0
              ·
                replace h := (if_neg hb42).symm.trans h
                refine zr_lload F zd_XSight_cutBySide_156 rfl ?_
                refine zr_lconstv (v := 0) F zd_XSight_cutBySide_158 (by decide) ?_
                refine zr_pcn 159 rfl ?_
                refine zr_lcmp F zd_XSight_cutBySide_159 ?_
                refine zr_if_lt F 189 zd_XSight_cutBySide_160 (by decide) (fun hb43 => ?_) (fun hb43 => ?_)
                ·
                  replace h := (if_pos hb43).symm.trans h
                  refine zr_lload F zd_XSight_cutBySide_189 rfl ?_
                  refine zr_lstore F zd_XSight_cutBySide_191 (by decide) ?_
                  refine zr_iinc (v := (v7 + 1)) F zd_XSight_cutBySide_193 rfl rfl (by decide) ?_
                  refine zr_goto F 16 zd_XSight_cutBySide_196 (by decide) ?_
                  refine zr_loc (L' := [(0, .ref (b + v0)), (1, .int v1), (2, .long v2), (4, .long v2), (6, .int (v6 + 1)), (7, .int (v7 + 1))]) ⟨rfl, rfl, rfl, rfl, rfl, rfl, trivial⟩ ?_
                  exact ih _ _ _ _ _ _ _ _ h hx0
                ·
                  replace h := (if_neg hb43).symm.trans h
                  refine zr_aload_n F zd_XSight_cutBySide_163 rfl ?_
                  refine zr_bipushv (v := 6) F zd_XSight_cutBySide_164 (by decide) ?_
                  refine zr_pcn 166 rfl ?_
                  refine zr_iload F zd_XSight_cutBySide_166 rfl ?_
                  refine zr_imul F zd_XSight_cutBySide_168 ?_
                  refine zr_lload F zd_XSight_cutBySide_169 rfl ?_
                  refine zr_bipushv (v := 6) F zd_XSight_cutBySide_171 (by decide) ?_
                  refine zr_iload F zd_XSight_cutBySide_173 rfl ?_
                  refine zr_imul F zd_XSight_cutBySide_175 ?_
                  refine zr_lload F zd_XSight_cutBySide_176 rfl ?_
                  refine zr_bipushv (v := 6) F zd_XSight_cutBySide_178 (by decide) ?_
                  refine zr_pcn 180 rfl ?_
                  refine zr_iload F zd_XSight_cutBySide_180 rfl ?_
                  refine zr_imul F zd_XSight_cutBySide_182 ?_
                  obtain ⟨le45, hs44, h⟩ := zoS_s h
                  obtain ⟨p46, ep46, h⟩ := zoB_s h
                  refine zr_callV0 F (k_XSight_putBetween l D tA b sh _ ep46) zd_XSight_cutBySide_183 (zW_o hs44 (by decide)) rfl zs_XSight_216 rfl zq_XSight_putBetween rfl rfl ⟨(Nat.le_of_ble_eq_true rfl), (Nat.le_of_ble_eq_true rfl)⟩ (Nat.le_of_ble_eq_true rfl) ⟨(Nat.le_of_ble_eq_true rfl), (Nat.le_of_ble_eq_true rfl)⟩ ?_
                  refine zr_iinc (v := ((v6 + 1) + 1)) F zd_XSight_cutBySide_186 rfl rfl (by decide) ?_
                  refine zr_lload F zd_XSight_cutBySide_189 rfl ?_
                  refine zr_lstore F zd_XSight_cutBySide_191 (by decide) ?_
                  refine zr_iinc (v := (v7 + 1)) F zd_XSight_cutBySide_193 rfl rfl (by decide) ?_
                  refine zr_loc (L' := [(0, .ref (b + v0)), (1, .int v1), (2, .long v2), (4, .long v2), (6, .int ((v6 + 1) + 1)), (7, .int (v7 + 1))]) ⟨rfl, rfl, rfl, rfl, rfl, rfl, trivial⟩ ?_
                  refine zr_goto F 16 zd_XSight_cutBySide_196 (by decide) ?_
                  refine zr_loc (L' := [(0, .ref (b + v0)), (1, .int v1), (2, .long v2), (4, .long v2), (6, .int ((v6 + 1) + 1)), (7, .int (v7 + 1))]) ⟨rfl, rfl, rfl, rfl, rfl, rfl, trivial⟩ ?_
                  exact ih _ _ _ _ _ _ _ _ h hx0
            ·
              replace h := (if_neg hb41).symm.trans h
              refine zr_pcn 113 rfl ?_
              refine zr_lload F zd_XSight_cutBySide_113 rfl ?_
              refine zr_lconstv (v := 0) F zd_XSight_cutBySide_115 (by decide) ?_
              refine zr_lcmp F zd_XSight_cutBySide_116 ?_
              refine zr_if_ge F 149 zd_XSight_cutBySide_117 (by decide) (fun hb47 => ?_) (fun hb47 => ?_)
              ·
                replace h := (if_pos hb47).symm.trans h
                refine zr_lload F zd_XSight_cutBySide_149 rfl ?_
                refine zr_lconstv (v := 0) F zd_XSight_cutBySide_151 (by decide) ?_
                refine zr_lcmp F zd_XSight_cutBySide_152 ?_
                refine zr_if_ge F 189 zd_XSight_cutBySide_153 (by decide) (fun hb48 => ?_) (fun hb48 => ?_)
                ·
                  replace h := (if_pos hb48).symm.trans h
                  refine zr_pcn 189 rfl ?_
                  refine zr_lload F zd_XSight_cutBySide_189 rfl ?_
                  refine zr_lstore F zd_XSight_cutBySide_191 (by decide) ?_
                  refine zr_iinc (v := (v7 + 1)) F zd_XSight_cutBySide_193 rfl rfl (by decide) ?_
                  refine zr_goto F 16 zd_XSight_cutBySide_196 (by decide) ?_
                  refine zr_loc (L' := [(0, .ref (b + v0)), (1, .int v1), (2, .long v2), (4, .long v2), (6, .int (v6 + 1)), (7, .int (v7 + 1))]) ⟨rfl, rfl, rfl, rfl, rfl, rfl, trivial⟩ ?_
                  exact ih _ _ _ _ _ _ _ _ h hx0
                ·
                  replace h := (if_neg hb48).symm.trans h
                  refine zr_lload F zd_XSight_cutBySide_156 rfl ?_
                  refine zr_lconstv (v := 0) F zd_XSight_cutBySide_158 (by decide) ?_
                  refine zr_lcmp F zd_XSight_cutBySide_159 ?_
                  refine zr_if_lt F 189 zd_XSight_cutBySide_160 (by decide) (fun hb49 => ?_) (fun hb49 => ?_)
                  ·
                    replace h := (if_pos hb49).symm.trans h
                    refine zr_pcn 189 rfl ?_
                    refine zr_lload F zd_XSight_cutBySide_189 rfl ?_
                    refine zr_lstore F zd_XSight_cutBySide_191 (by decide) ?_
                    refine zr_iinc (v := (v7 + 1)) F zd_XSight_cutBySide_193 rfl rfl (by decide) ?_
                    refine zr_goto F 16 zd_XSight_cutBySide_196 (by decide) ?_
                    refine zr_loc (L' := [(0, .ref (b + v0)), (1, .int v1), (2, .long v2), (4, .long v2), (6, .int (v6 + 1)), (7, .int (v7 + 1))]) ⟨rfl, rfl, rfl, rfl, rfl, rfl, trivial⟩ ?_
                    exact ih _ _ _ _ _ _ _ _ h hx0
                  ·
                    replace h := (if_neg hb49).symm.trans h
                    refine zr_aload_n F zd_XSight_cutBySide_163 rfl ?_
                    refine zr_bipushv (v := 6) F zd_XSight_cutBySide_164 (by decide) ?_
                    refine zr_iload F zd_XSight_cutBySide_166 rfl ?_
                    refine zr_imul F zd_XSight_cutBySide_168 ?_
                    refine zr_pcn 169 rfl ?_
                    refine zr_lload F zd_XSight_cutBySide_169 rfl ?_
                    refine zr_bipushv (v := 6) F zd_XSight_cutBySide_171 (by decide) ?_
                    refine zr_iload F zd_XSight_cutBySide_173 rfl ?_
                    refine zr_imul F zd_XSight_cutBySide_175 ?_
                    refine zr_lload F zd_XSight_cutBySide_176 rfl ?_
                    refine zr_bipushv (v := 6) F zd_XSight_cutBySide_178 (by decide) ?_
                    refine zr_iload F zd_XSight_cutBySide_180 rfl ?_
                    refine zr_imul F zd_XSight_cutBySide_182 ?_
                    refine zr_pcn 183 rfl ?_
                    obtain ⟨le51, hs50, h⟩ := zoS_s h
                    obtain ⟨p52, ep52, h⟩ := zoB_s h
                    refine zr_callV0 F (k_XSight_putBetween l D tA b sh _ ep52) zd_XSight_cutBySide_183 (zW_o hs50 (by decide)) rfl zs_XSight_216 rfl zq_XSight_putBetween rfl rfl ⟨(Nat.le_of_ble_eq_true rfl), (Nat.le_of_ble_eq_true rfl)⟩ (Nat.le_of_ble_eq_true rfl) ⟨(Nat.le_of_ble_eq_true rfl), (Nat.le_of_ble_eq_true rfl)⟩ ?_
                    refine zr_iinc (v := ((v6 + 1) + 1)) F zd_XSight_cutBySide_186 rfl rfl (by decide) ?_
                    refine zr_lload F zd_XSight_cutBySide_189 rfl ?_
                    refine zr_lstore F zd_XSight_cutBySide_191 (by decide) ?_
                    refine zr_iinc (v := (v7 + 1)) F zd_XSight_cutBySide_193 rfl rfl (by decide) ?_
                    refine zr_loc (L' := [(0, .ref (b + v0)), (1, .int v1), (2, .long v2), (4, .long v2), (6, .int ((v6 + 1) + 1)), (7, .int (v7 + 1))]) ⟨rfl, rfl, rfl, rfl, rfl, rfl, trivial⟩ ?_
                    refine zr_goto F 16 zd_XSight_cutBySide_196 (by decide) ?_
                    refine zr_loc (L' := [(0, .ref (b + v0)), (1, .int v1), (2, .long v2), (4, .long v2), (6, .int ((v6 + 1) + 1)), (7, .int (v7 + 1))]) ⟨rfl, rfl, rfl, rfl, rfl, rfl, trivial⟩ ?_
                    exact ih _ _ _ _ _ _ _ _ h hx0
              ·
                replace h := (if_neg hb47).symm.trans h
                refine zr_aload_n F zd_XSight_cutBySide_120 rfl ?_
                refine zr_bipushv (v := 6) F zd_XSight_cutBySide_121 (by decide) ?_
                refine zr_pcn 123 rfl ?_
                refine zr_iload F zd_XSight_cutBySide_123 rfl ?_
                refine zr_imul F zd_XSight_cutBySide_125 ?_
                refine zr_lload F zd_XSight_cutBySide_126 rfl ?_
                refine zr_bipushv (v := 6) F zd_XSight_cutBySide_128 (by decide) ?_
                refine zr_iload F zd_XSight_cutBySide_130 rfl ?_
                refine zr_imul F zd_XSight_cutBySide_132 ?_
                refine zr_lload F zd_XSight_cutBySide_133 rfl ?_
                refine zr_bipushv (v := 6) F zd_XSight_cutBySide_135 (by decide) ?_
                refine zr_pcn 137 rfl ?_
                refine zr_iload F zd_XSight_cutBySide_137 rfl ?_
                refine zr_imul F zd_XSight_cutBySide_139 ?_
                obtain ⟨le54, hs53, h⟩ := zoS_s h
                obtain ⟨p55, ep55, h⟩ := zoB_s h
                refine zr_callV0 F (k_XSight_putBetween l D tA b sh _ ep55) zd_XSight_cutBySide_140 (zW_o hs53 (by decide)) rfl zs_XSight_216 rfl zq_XSight_putBetween rfl rfl ⟨(Nat.le_of_ble_eq_true rfl), (Nat.le_of_ble_eq_true rfl)⟩ (Nat.le_of_ble_eq_true rfl) ⟨(Nat.le_of_ble_eq_true rfl), (Nat.le_of_ble_eq_true rfl)⟩ ?_
                refine zr_iinc (v := ((v6 + 1) + 1)) F zd_XSight_cutBySide_143 rfl rfl (by decide) ?_
                refine zr_goto F 189 zd_XSight_cutBySide_146 (by decide) ?_
                refine zr_lload F zd_XSight_cutBySide_189 rfl ?_
                refine zr_lstore F zd_XSight_cutBySide_191 (by decide) ?_
                refine zr_iinc (v := (v7 + 1)) F zd_XSight_cutBySide_193 rfl rfl (by decide) ?_
                refine zr_loc (L' := [(0, .ref (b + v0)), (1, .int v1), (2, .long v2), (4, .long v2), (6, .int ((v6 + 1) + 1)), (7, .int (v7 + 1))]) ⟨rfl, rfl, rfl, rfl, rfl, rfl, trivial⟩ ?_
                refine zr_pcn 196 rfl ?_
                refine zr_goto F 16 zd_XSight_cutBySide_196 (by decide) ?_
                refine zr_loc (L' := [(0, .ref (b + v0)), (1, .int v1), (2, .long v2), (4, .long v2), (6, .int ((v6 + 1) + 1)), (7, .int (v7 + 1))]) ⟨rfl, rfl, rfl, rfl, rfl, rfl, trivial⟩ ?_
                exact ih _ _ _ _ _ _ _ _ h hx0
        ·
          replace h := (if_neg hb10).symm.trans h
          refine zr_iload F zd_XSight_cutBySide_45 rfl ?_
          refine zr_iconstv (v := 1) F zd_XSight_cutBySide_47 (by decide) ?_
          refine zr_iadd F zd_XSight_cutBySide_48 ?_
          refine zr_goto F 53 zd_XSight_cutBySide_49 (by decide) ?_
          obtain ⟨x56, ex56, h⟩ := zoL_s h
          rw [← ex56]
          refine zr_istore F zd_XSight_cutBySide_53 (by decide) ?_
          refine zr_iload F zd_XSight_cutBySide_55 rfl ?_
          refine zr_if_ne F 64 zd_XSight_cutBySide_57 (by decide) (fun hb57 => ?_) (fun hb57 => ?_)
          ·
            replace h := (if_neg hb57).symm.trans h
            refine zr_pcn 64 rfl ?_
            refine zr_aload_n F zd_XSight_cutBySide_64 rfl ?_
            refine zr_iload_n F zd_XSight_cutBySide_65 rfl ?_
            refine zr_iload F zd_XSight_cutBySide_66 rfl ?_
            obtain ⟨le59, hs58, h⟩ := zoS_s h
            obtain ⟨p60, ep60, h⟩ := zoB_s h
            refine zr_callV1 F (k_XSight_sideOf l D tA b sh _ ep60) zd_XSight_cutBySide_68 (zW_o hs58 (by decide)) rfl zs_XSight_212 rfl zq_XSight_sideOf rfl rfl ⟨(Nat.le_of_ble_eq_true rfl), (Nat.le_of_ble_eq_true rfl)⟩ (Nat.le_of_ble_eq_true rfl) ⟨(Nat.le_of_ble_eq_true rfl), (Nat.le_of_ble_eq_true rfl)⟩ ?_
            refine zr_lstore F zd_XSight_cutBySide_71 (by decide) ?_
            refine zr_lload F zd_XSight_cutBySide_73 rfl ?_
            refine zr_lconstv (v := 0) F zd_XSight_cutBySide_75 (by decide) ?_
            refine zr_lcmp F zd_XSight_cutBySide_76 ?_
            refine zr_pcn 77 rfl ?_
            refine zr_if_lt F 106 zd_XSight_cutBySide_77 (by decide) (fun hb61 => ?_) (fun hb61 => ?_)
            ·
              replace h := (if_pos hb61).symm.trans h
              refine zr_lload F zd_XSight_cutBySide_106 rfl ?_
              refine zr_lconstv (v := 0) F zd_XSight_cutBySide_108 (by decide) ?_
              refine zr_lcmp F zd_XSight_cutBySide_109 ?_
              refine zr_if_lt F 149 zd_XSight_cutBySide_110 (by decide) (fun hb62 => ?_) (fun hb62 => ?_)
              ·
                replace h := (if_pos hb62).symm.trans h
                refine zr_lload F zd_XSight_cutBySide_149 rfl ?_
                refine zr_lconstv (v := 0) F zd_XSight_cutBySide_151 (by decide) ?_
                refine zr_lcmp F zd_XSight_cutBySide_152 ?_
                refine zr_pcn 153 rfl ?_
                refine zr_if_ge F 189 zd_XSight_cutBySide_153 (by decide) (fun hb63 => ?_) (fun hb63 => ?_)
                ·
                  replace h := (if_pos hb63).symm.trans h
                  refine zr_lload F zd_XSight_cutBySide_189 rfl ?_
                  refine zr_lstore F zd_XSight_cutBySide_191 (by decide) ?_
                  refine zr_loc (L' := [(0, .ref (b + v0)), (1, .int v1), (2, .long v2), (4, .long (p60.1)), (6, .int v6), (7, .int v7)]) ⟨rfl, rfl, rfl, rfl, rfl, rfl, trivial⟩ ?_
                  refine zr_iinc (v := (v7 + 1)) F zd_XSight_cutBySide_193 rfl rfl (by decide) ?_
                  refine zr_goto F 16 zd_XSight_cutBySide_196 (by decide) ?_
                  refine zr_loc (L' := [(0, .ref (b + v0)), (1, .int v1), (2, .long v2), (4, .long (p60.1)), (6, .int v6), (7, .int (v7 + 1))]) ⟨rfl, rfl, rfl, rfl, rfl, rfl, trivial⟩ ?_
                  exact ih _ _ _ _ _ _ _ _ h hx0
                ·
                  replace h := (if_neg hb63).symm.trans h
                  refine zr_lload F zd_XSight_cutBySide_156 rfl ?_
                  refine zr_lconstv (v := 0) F zd_XSight_cutBySide_158 (by decide) ?_
                  refine zr_lcmp F zd_XSight_cutBySide_159 ?_
                  refine zr_pcn 160 rfl ?_
                  refine zr_if_lt F 189 zd_XSight_cutBySide_160 (by decide) (fun hb64 => ?_) (fun hb64 => ?_)
                  ·
                    replace h := (if_pos hb64).symm.trans h
                    refine zr_lload F zd_XSight_cutBySide_189 rfl ?_
                    refine zr_lstore F zd_XSight_cutBySide_191 (by decide) ?_
                    refine zr_loc (L' := [(0, .ref (b + v0)), (1, .int v1), (2, .long v2), (4, .long (p60.1)), (6, .int v6), (7, .int v7)]) ⟨rfl, rfl, rfl, rfl, rfl, rfl, trivial⟩ ?_
                    refine zr_iinc (v := (v7 + 1)) F zd_XSight_cutBySide_193 rfl rfl (by decide) ?_
                    refine zr_goto F 16 zd_XSight_cutBySide_196 (by decide) ?_
                    refine zr_loc (L' := [(0, .ref (b + v0)), (1, .int v1), (2, .long v2), (4, .long (p60.1)), (6, .int v6), (7, .int (v7 + 1))]) ⟨rfl, rfl, rfl, rfl, rfl, rfl, trivial⟩ ?_
                    exact ih _ _ _ _ _ _ _ _ h hx0
                  ·
                    replace h := (if_neg hb64).symm.trans h
                    refine zr_aload_n F zd_XSight_cutBySide_163 rfl ?_
                    refine zr_bipushv (v := 6) F zd_XSight_cutBySide_164 (by decide) ?_
                    refine zr_iload F zd_XSight_cutBySide_166 rfl ?_
                    refine zr_pcn 168 rfl ?_
                    refine zr_imul F zd_XSight_cutBySide_168 ?_
                    refine zr_lload F zd_XSight_cutBySide_169 rfl ?_
                    refine zr_bipushv (v := 6) F zd_XSight_cutBySide_171 (by decide) ?_
                    refine zr_iload F zd_XSight_cutBySide_173 rfl ?_
                    refine zr_imul F zd_XSight_cutBySide_175 ?_
                    refine zr_lload F zd_XSight_cutBySide_176 rfl ?_
                    refine zr_bipushv (v := 6) F zd_XSight_cutBySide_178 (by decide) ?_
                    refine zr_iload F zd_XSight_cutBySide_180 rfl ?_
                    refine zr_pcn 182 rfl ?_
                    refine zr_imul F zd_XSight_cutBySide_182 ?_
                    obtain ⟨le66, hs65, h⟩ := zoS_s h
                    obtain ⟨p67, ep67, h⟩ := zoB_s h
                    refine zr_callV0 F (k_XSight_putBetween l D tA b sh _ ep67) zd_XSight_cutBySide_183 (zW_o hs65 (by decide)) rfl zs_XSight_216 rfl zq_XSight_putBetween rfl rfl ⟨(Nat.le_of_ble_eq_true rfl), (Nat.le_of_ble_eq_true rfl)⟩ (Nat.le_of_ble_eq_true rfl) ⟨(Nat.le_of_ble_eq_true rfl), (Nat.le_of_ble_eq_true rfl)⟩ ?_
                    refine zr_iinc (v := (v6 + 1)) F zd_XSight_cutBySide_186 rfl rfl (by decide) ?_
                    refine zr_loc (L' := [(0, .ref (b + v0)), (1, .int v1), (2, .long v2), (4, .long v4), (6, .int (v6 + 1)), (7, .int v7), (9, .long (p60.1))]) ⟨rfl, rfl, rfl, rfl, rfl, rfl, rfl, trivial⟩ ?_
                    refine zr_lload F zd_XSight_cutBySide_189 rfl ?_
                    refine zr_lstore F zd_XSight_cutBySide_191 (by decide) ?_
                    refine zr_iinc (v := (v7 + 1)) F zd_XSight_cutBySide_193 rfl rfl (by decide) ?_
                    refine zr_goto F 16 zd_XSight_cutBySide_196 (by decide) ?_
                    refine zr_loc (L' := [(0, .ref (b + v0)), (1, .int v1), (2, .long v2), (4, .long (p60.1)), (6, .int (v6 + 1)), (7, .int (v7 + 1))]) ⟨rfl, rfl, rfl, rfl, rfl, rfl, trivial⟩ ?_
                    exact ih _ _ _ _ _ _ _ _ h hx0
              ·
                replace h := (if_neg hb62).symm.trans h
                refine zr_lload F zd_XSight_cutBySide_113 rfl ?_
                refine zr_pcn 115 rfl ?_
                refine zr_lconstv (v := 0) F zd_XSight_cutBySide_115 (by decide) ?_
                refine zr_lcmp F zd_XSight_cutBySide_116 ?_
                refine zr_if_ge F 149 zd_XSight_cutBySide_117 (by decide) (fun hb68 => ?_) (fun hb68 => ?_)
                ·
                  replace h := (if_pos hb68).symm.trans h
                  refine zr_lload F zd_XSight_cutBySide_149 rfl ?_
                  refine zr_lconstv (v := 0) F zd_XSight_cutBySide_151 (by decide) ?_
                  refine zr_lcmp F zd_XSight_cutBySide_152 ?_
                  refine zr_if_ge F 189 zd_XSight_cutBySide_153 (by decide) (fun hb69 => ?_) (fun hb69 => ?_)
                  ·
                    replace h := (if_pos hb69).symm.trans h
                    refine zr_lload F zd_XSight_cutBySide_189 rfl ?_
                    refine zr_pcn 191 rfl ?_
                    refine zr_lstore F zd_XSight_cutBySide_191 (by decide) ?_
                    refine zr_loc (L' := [(0, .ref (b + v0)), (1, .int v1), (2, .long v2), (4, .long (p60.1)), (6, .int v6), (7, .int v7)]) ⟨rfl, rfl, rfl, rfl, rfl, rfl, trivial⟩ ?_
                    refine zr_iinc (v := (v7 + 1)) F zd_XSight_cutBySide_193 rfl rfl (by decide) ?_
                    refine zr_goto F 16 zd_XSight_cutBySide_196 (by decide) ?_
                    refine zr_loc (L' := [(0, .ref (b + v0)), (1, .int v1), (2, .long v2), (4, .long (p60.1)), (6, .int v6), (7, .int (v7 + 1))]) ⟨rfl, rfl, rfl, rfl, rfl, rfl, trivial⟩ ?_
                    exact ih _ _ _ _ _ _ _ _ h hx0
                  ·
                    replace h := (if_neg hb69).symm.trans h
                    refine zr_lload F zd_XSight_cutBySide_156 rfl ?_
                    refine zr_lconstv (v := 0) F zd_XSight_cutBySide_158 (by decide) ?_
                    refine zr_lcmp F zd_XSight_cutBySide_159 ?_
                    refine zr_if_lt F 189 zd_XSight_cutBySide_160 (by decide) (fun hb70 => ?_) (fun hb70 => ?_)
                    ·
                      replace h := (if_pos hb70).symm.trans h
                      refine zr_lload F zd_XSight_cutBySide_189 rfl ?_
                      refine zr_pcn 191 rfl ?_
                      refine zr_lstore F zd_XSight_cutBySide_191 (by decide) ?_
                      refine zr_loc (L' := [(0, .ref (b + v0)), (1, .int v1), (2, .long v2), (4, .long (p60.1)), (6, .int v6), (7, .int v7)]) ⟨rfl, rfl, rfl, rfl, rfl, rfl, trivial⟩ ?_
                      refine zr_iinc (v := (v7 + 1)) F zd_XSight_cutBySide_193 rfl rfl (by decide) ?_
                      refine zr_goto F 16 zd_XSight_cutBySide_196 (by decide) ?_
                      refine zr_loc (L' := [(0, .ref (b + v0)), (1, .int v1), (2, .long v2), (4, .long (p60.1)), (6, .int v6), (7, .int (v7 + 1))]) ⟨rfl, rfl, rfl, rfl, rfl, rfl, trivial⟩ ?_
                      exact ih _ _ _ _ _ _ _ _ h hx0
                    ·
                      replace h := (if_neg hb70).symm.trans h
                      refine zr_aload_n F zd_XSight_cutBySide_163 rfl ?_
                      refine zr_bipushv (v := 6) F zd_XSight_cutBySide_164 (by decide) ?_
                      refine zr_iload F zd_XSight_cutBySide_166 rfl ?_
                      refine zr_imul F zd_XSight_cutBySide_168 ?_
                      refine zr_lload F zd_XSight_cutBySide_169 rfl ?_
                      refine zr_pcn 171 rfl ?_
                      refine zr_bipushv (v := 6) F zd_XSight_cutBySide_171 (by decide) ?_
                      refine zr_iload F zd_XSight_cutBySide_173 rfl ?_
                      refine zr_imul F zd_XSight_cutBySide_175 ?_
                      refine zr_lload F zd_XSight_cutBySide_176 rfl ?_
                      refine zr_bipushv (v := 6) F zd_XSight_cutBySide_178 (by decide) ?_
                      refine zr_iload F zd_XSight_cutBySide_180 rfl ?_
                      refine zr_imul F zd_XSight_cutBySide_182 ?_
                      obtain ⟨le72, hs71, h⟩ := zoS_s h
                      obtain ⟨p73, ep73, h⟩ := zoB_s h
                      refine zr_callV0 F (k_XSight_putBetween l D tA b sh _ ep73) zd_XSight_cutBySide_183 (zW_o hs71 (by decide)) rfl zs_XSight_216 rfl zq_XSight_putBetween rfl rfl ⟨(Nat.le_of_ble_eq_true rfl), (Nat.le_of_ble_eq_true rfl)⟩ (Nat.le_of_ble_eq_true rfl) ⟨(Nat.le_of_ble_eq_true rfl), (Nat.le_of_ble_eq_true rfl)⟩ ?_
                      refine zr_pcn 186 rfl ?_
                      refine zr_iinc (v := (v6 + 1)) F zd_XSight_cutBySide_186 rfl rfl (by decide) ?_
                      refine zr_loc (L' := [(0, .ref (b + v0)), (1, .int v1), (2, .long v2), (4, .long v4), (6, .int (v6 + 1)), (7, .int v7), (9, .long (p60.1))]) ⟨rfl, rfl, rfl, rfl, rfl, rfl, rfl, trivial⟩ ?_
                      refine zr_lload F zd_XSight_cutBySide_189 rfl ?_
                      refine zr_lstore F zd_XSight_cutBySide_191 (by decide) ?_
                      refine zr_iinc (v := (v7 + 1)) F zd_XSight_cutBySide_193 rfl rfl (by decide) ?_
                      refine zr_goto F 16 zd_XSight_cutBySide_196 (by decide) ?_
                      refine zr_loc (L' := [(0, .ref (b + v0)), (1, .int v1), (2, .long v2), (4, .long (p60.1)), (6, .int (v6 + 1)), (7, .int (v7 + 1))]) ⟨rfl, rfl, rfl, rfl, rfl, rfl, trivial⟩ ?_
                      exact ih _ _ _ _ _ _ _ _ h hx0
                ·
                  replace h := (if_neg hb68).symm.trans h
                  refine zr_aload_n F zd_XSight_cutBySide_120 rfl ?_
                  refine zr_bipushv (v := 6) F zd_XSight_cutBySide_121 (by decide) ?_
                  refine zr_iload F zd_XSight_cutBySide_123 rfl ?_
                  refine zr_pcn 125 rfl ?_
                  refine zr_imul F zd_XSight_cutBySide_125 ?_
                  refine zr_lload F zd_XSight_cutBySide_126 rfl ?_
                  refine zr_bipushv (v := 6) F zd_XSight_cutBySide_128 (by decide) ?_
                  refine zr_iload F zd_XSight_cutBySide_130 rfl ?_
                  refine zr_imul F zd_XSight_cutBySide_132 ?_
                  refine zr_lload F zd_XSight_cutBySide_133 rfl ?_
                  refine zr_bipushv (v := 6) F zd_XSight_cutBySide_135 (by decide) ?_
                  refine zr_iload F zd_XSight_cutBySide_137 rfl ?_
                  refine zr_pcn 139 rfl ?_
                  refine zr_imul F zd_XSight_cutBySide_139 ?_
                  obtain ⟨le75, hs74, h⟩ := zoS_s h
                  obtain ⟨p76, ep76, h⟩ := zoB_s h
                  refine zr_callV0 F (k_XSight_putBetween l D tA b sh _ ep76) zd_XSight_cutBySide_140 (zW_o hs74 (by decide)) rfl zs_XSight_216 rfl zq_XSight_putBetween rfl rfl ⟨(Nat.le_of_ble_eq_true rfl), (Nat.le_of_ble_eq_true rfl)⟩ (Nat.le_of_ble_eq_true rfl) ⟨(Nat.le_of_ble_eq_true rfl), (Nat.le_of_ble_eq_true rfl)⟩ ?_
                  refine zr_iinc (v := (v6 + 1)) F zd_XSight_cutBySide_143 rfl rfl (by decide) ?_
                  refine zr_loc (L' := [(0, .ref (b + v0)), (1, .int v1), (2, .long v2), (4, .long v4), (6, .int (v6 + 1)), (7, .int v7), (9, .long (p60.1))]) ⟨rfl, rfl, rfl, rfl, rfl, rfl, rfl, trivial⟩ ?_
                  refine zr_goto F 189 zd_XSight_cutBySide_146 (by decide) ?_
                  refine zr_lload F zd_XSight_cutBySide_189 rfl ?_
                  refine zr_lstore F zd_XSight_cutBySide_191 (by decide) ?_
                  refine zr_iinc (v := (v7 + 1)) F zd_XSight_cutBySide_193 rfl rfl (by decide) ?_
                  refine zr_goto F 16 zd_XSight_cutBySide_196 (by decide) ?_
                  refine zr_loc (L' := [(0, .ref (b + v0)), (1, .int v1), (2, .long v2), (4, .long (p60.1)), (6, .int (v6 + 1)), (7, .int (v7 + 1))]) ⟨rfl, rfl, rfl, rfl, rfl, rfl, trivial⟩ ?_
                  exact ih _ _ _ _ _ _ _ _ h hx0
            ·
              replace h := (if_neg hb61).symm.trans h
              refine zr_pcn 80 rfl ?_
              refine zr_aload_n F zd_XSight_cutBySide_80 rfl ?_
              obtain ⟨le78, hs77, h⟩ := zoS_s h
              obtain ⟨a79, ea79, h⟩ := zoB_s h
              refine zr_get F 9 2 zd_XSight_cutBySide_81 (zW_o hs77 (by decide)) rfl (by decide) zw_375 rfl (by rfl) ?_
              refine zr_tor ea79 ?_
              refine zr_bipushv (v := 6) F zd_XSight_cutBySide_84 (by decide) ?_
              refine zr_iload F zd_XSight_cutBySide_86 rfl ?_
              refine zr_imul F zd_XSight_cutBySide_88 ?_
              refine zr_aload_n F zd_XSight_cutBySide_89 rfl ?_
              obtain ⟨le81, hs80, h⟩ := zoS_s h
              obtain ⟨a82, ea82, h⟩ := zoB_s h
              refine zr_get F 9 14 zd_XSight_cutBySide_90 (zW_o hs80 (by decide)) rfl (by decide) zw_387 rfl (by rfl) ?_
              refine zr_tor ea82 ?_
              refine zr_bipushv (v := 6) F zd_XSight_cutBySide_93 (by decide) ?_
              refine zr_pcn 95 rfl ?_
              refine zr_iload F zd_XSight_cutBySide_95 rfl ?_
              refine zr_imul F zd_XSight_cutBySide_97 ?_
              refine zr_bipushv (v := 6) F zd_XSight_cutBySide_98 (by decide) ?_
              obtain ⟨x83, ex83, h⟩ := zoL_s h
              rw [← ex83]
              obtain ⟨x84, ex84, h⟩ := zoL_s h
              rw [← ex84]
              obtain ⟨le85, hs86, h⟩ := zoS_s h
              obtain ⟨le87, hs88, h⟩ := zoS_s h
              obtain ⟨hc89, h⟩ := zoT_s h
              obtain ⟨mm90, emm90, h⟩ := zoL_s h
              refine zr_copy F zd_XSight_cutBySide_100 zw_722 zw_724 zw_723 zw_26 (zW_a0 hs86) (zW_a0 hs88) hc89.1 hc89.2.1 hc89.2.2.1 hc89.2.2.2.1 hc89.2.2.2.2 (Nat.le_of_ble_eq_true rfl) (Nat.le_of_ble_eq_true rfl) ?_
              refine zr_norm (zW tA b sh mm90) _ (by rw [emm90]; exact zW_c hs88) rfl ?_
              refine zr_iinc (v := (v6 + 1)) F zd_XSight_cutBySide_103 rfl rfl (by decide) ?_
              refine zr_loc (L' := [(0, .ref (b + v0)), (1, .int v1), (2, .long v2), (4, .long v4), (6, .int (v6 + 1)), (7, .int v7), (8, .int x56), (9, .long (p60.1))]) ⟨rfl, rfl, rfl, rfl, rfl, rfl, rfl, rfl, trivial⟩ ?_
              refine zr_lload F zd_XSight_cutBySide_106 rfl ?_
              refine zr_lconstv (v := 0) F zd_XSight_cutBySide_108 (by decide) ?_
              refine zr_lcmp F zd_XSight_cutBySide_109 ?_
              refine zr_pcn 110 rfl ?_
              refine zr_if_lt F 149 zd_XSight_cutBySide_110 (by decide) (fun hb91 => ?_) (fun hb91 => ?_)
              ·
                replace h := (if_pos hb91).symm.trans h
                refine zr_lload F zd_XSight_cutBySide_149 rfl ?_
                refine zr_lconstv (v := 0) F zd_XSight_cutBySide_151 (by decide) ?_
                refine zr_lcmp F zd_XSight_cutBySide_152 ?_
                refine zr_if_ge F 189 zd_XSight_cutBySide_153 (by decide) (fun hb92 => ?_) (fun hb92 => ?_)
                ·
                  replace h := (if_pos hb92).symm.trans h
                  refine zr_lload F zd_XSight_cutBySide_189 rfl ?_
                  refine zr_lstore F zd_XSight_cutBySide_191 (by decide) ?_
                  refine zr_iinc (v := (v7 + 1)) F zd_XSight_cutBySide_193 rfl rfl (by decide) ?_
                  refine zr_pcn 196 rfl ?_
                  refine zr_goto F 16 zd_XSight_cutBySide_196 (by decide) ?_
                  refine zr_loc (L' := [(0, .ref (b + v0)), (1, .int v1), (2, .long v2), (4, .long (p60.1)), (6, .int (v6 + 1)), (7, .int (v7 + 1))]) ⟨rfl, rfl, rfl, rfl, rfl, rfl, trivial⟩ ?_
                  exact ih _ _ _ _ _ _ _ _ h hx0
                ·
                  replace h := (if_neg hb92).symm.trans h
                  refine zr_lload F zd_XSight_cutBySide_156 rfl ?_
                  refine zr_lconstv (v := 0) F zd_XSight_cutBySide_158 (by decide) ?_
                  refine zr_lcmp F zd_XSight_cutBySide_159 ?_
                  refine zr_if_lt F 189 zd_XSight_cutBySide_160 (by decide) (fun hb93 => ?_) (fun hb93 => ?_)
                  ·
                    replace h := (if_pos hb93).symm.trans h
                    refine zr_lload F zd_XSight_cutBySide_189 rfl ?_
                    refine zr_lstore F zd_XSight_cutBySide_191 (by decide) ?_
                    refine zr_iinc (v := (v7 + 1)) F zd_XSight_cutBySide_193 rfl rfl (by decide) ?_
                    refine zr_pcn 196 rfl ?_
                    refine zr_goto F 16 zd_XSight_cutBySide_196 (by decide) ?_
                    refine zr_loc (L' := [(0, .ref (b + v0)), (1, .int v1), (2, .long v2), (4, .long (p60.1)), (6, .int (v6 + 1)), (7, .int (v7 + 1))]) ⟨rfl, rfl, rfl, rfl, rfl, rfl, trivial⟩ ?_
                    exact ih _ _ _ _ _ _ _ _ h hx0
                  ·
                    replace h := (if_neg hb93).symm.trans h
                    refine zr_aload_n F zd_XSight_cutBySide_163 rfl ?_
                    refine zr_bipushv (v := 6) F zd_XSight_cutBySide_164 (by decide) ?_
                    refine zr_iload F zd_XSight_cutBySide_166 rfl ?_
                    refine zr_imul F zd_XSight_cutBySide_168 ?_
                    refine zr_lload F zd_XSight_cutBySide_169 rfl ?_
                    refine zr_bipushv (v := 6) F zd_XSight_cutBySide_171 (by decide) ?_
                    refine zr_iload F zd_XSight_cutBySide_173 rfl ?_
                    refine zr_pcn 175 rfl ?_
                    refine zr_imul F zd_XSight_cutBySide_175 ?_
                    refine zr_lload F zd_XSight_cutBySide_176 rfl ?_
                    refine zr_bipushv (v := 6) F zd_XSight_cutBySide_178 (by decide) ?_
                    refine zr_iload F zd_XSight_cutBySide_180 rfl ?_
                    refine zr_imul F zd_XSight_cutBySide_182 ?_
                    obtain ⟨le95, hs94, h⟩ := zoS_s h
                    obtain ⟨p96, ep96, h⟩ := zoB_s h
                    refine zr_callV0 F (k_XSight_putBetween l D tA b sh _ ep96) zd_XSight_cutBySide_183 (zW_o hs94 (by decide)) rfl zs_XSight_216 rfl zq_XSight_putBetween rfl rfl ⟨(Nat.le_of_ble_eq_true rfl), (Nat.le_of_ble_eq_true rfl)⟩ (Nat.le_of_ble_eq_true rfl) ⟨(Nat.le_of_ble_eq_true rfl), (Nat.le_of_ble_eq_true rfl)⟩ ?_
                    refine zr_iinc (v := ((v6 + 1) + 1)) F zd_XSight_cutBySide_186 rfl rfl (by decide) ?_
                    refine zr_lload F zd_XSight_cutBySide_189 rfl ?_
                    refine zr_pcn 191 rfl ?_
                    refine zr_lstore F zd_XSight_cutBySide_191 (by decide) ?_
                    refine zr_iinc (v := (v7 + 1)) F zd_XSight_cutBySide_193 rfl rfl (by decide) ?_
                    refine zr_loc (L' := [(0, .ref (b + v0)), (1, .int v1), (2, .long v2), (4, .long (p60.1)), (6, .int ((v6 + 1) + 1)), (7, .int (v7 + 1))]) ⟨rfl, rfl, rfl, rfl, rfl, rfl, trivial⟩ ?_
                    refine zr_goto F 16 zd_XSight_cutBySide_196 (by decide) ?_
                    refine zr_loc (L' := [(0, .ref (b + v0)), (1, .int v1), (2, .long v2), (4, .long (p60.1)), (6, .int ((v6 + 1) + 1)), (7, .int (v7 + 1))]) ⟨rfl, rfl, rfl, rfl, rfl, rfl, trivial⟩ ?_
                    exact ih _ _ _ _ _ _ _ _ h hx0
              ·
                replace h := (if_neg hb91).symm.trans h
                refine zr_lload F zd_XSight_cutBySide_113 rfl ?_
                refine zr_lconstv (v := 0) F zd_XSight_cutBySide_115 (by decide) ?_
                refine zr_lcmp F zd_XSight_cutBySide_116 ?_
                refine zr_if_ge F 149 zd_XSight_cutBySide_117 (by decide) (fun hb97 => ?_) (fun hb97 => ?_)
                ·
                  replace h := (if_pos hb97).symm.trans h
                  refine zr_lload F zd_XSight_cutBySide_149 rfl ?_
                  refine zr_pcn 151 rfl ?_
                  refine zr_lconstv (v := 0) F zd_XSight_cutBySide_151 (by decide) ?_
                  refine zr_lcmp F zd_XSight_cutBySide_152 ?_
                  refine zr_if_ge F 189 zd_XSight_cutBySide_153 (by decide) (fun hb98 => ?_) (fun hb98 => ?_)
                  ·
                    replace h := (if_pos hb98).symm.trans h
                    refine zr_lload F zd_XSight_cutBySide_189 rfl ?_
                    refine zr_lstore F zd_XSight_cutBySide_191 (by decide) ?_
                    refine zr_iinc (v := (v7 + 1)) F zd_XSight_cutBySide_193 rfl rfl (by decide) ?_
                    refine zr_goto F 16 zd_XSight_cutBySide_196 (by decide) ?_
                    refine zr_loc (L' := [(0, .ref (b + v0)), (1, .int v1), (2, .long v2), (4, .long (p60.1)), (6, .int (v6 + 1)), (7, .int (v7 + 1))]) ⟨rfl, rfl, rfl, rfl, rfl, rfl, trivial⟩ ?_
                    exact ih _ _ _ _ _ _ _ _ h hx0
                  ·
                    replace h := (if_neg hb98).symm.trans h
                    refine zr_lload F zd_XSight_cutBySide_156 rfl ?_
                    refine zr_pcn 158 rfl ?_
                    refine zr_lconstv (v := 0) F zd_XSight_cutBySide_158 (by decide) ?_
                    refine zr_lcmp F zd_XSight_cutBySide_159 ?_
                    refine zr_if_lt F 189 zd_XSight_cutBySide_160 (by decide) (fun hb99 => ?_) (fun hb99 => ?_)
                    ·
                      replace h := (if_pos hb99).symm.trans h
                      refine zr_lload F zd_XSight_cutBySide_189 rfl ?_
                      refine zr_lstore F zd_XSight_cutBySide_191 (by decide) ?_
                      refine zr_iinc (v := (v7 + 1)) F zd_XSight_cutBySide_193 rfl rfl (by decide) ?_
                      refine zr_goto F 16 zd_XSight_cutBySide_196 (by decide) ?_
                      refine zr_loc (L' := [(0, .ref (b + v0)), (1, .int v1), (2, .long v2), (4, .long (p60.1)), (6, .int (v6 + 1)), (7, .int (v7 + 1))]) ⟨rfl, rfl, rfl, rfl, rfl, rfl, trivial⟩ ?_
                      exact ih _ _ _ _ _ _ _ _ h hx0
                    ·
                      replace h := (if_neg hb99).symm.trans h
                      refine zr_aload_n F zd_XSight_cutBySide_163 rfl ?_
                      refine zr_pcn 164 rfl ?_
                      refine zr_bipushv (v := 6) F zd_XSight_cutBySide_164 (by decide) ?_
                      refine zr_iload F zd_XSight_cutBySide_166 rfl ?_
                      refine zr_imul F zd_XSight_cutBySide_168 ?_
                      refine zr_lload F zd_XSight_cutBySide_169 rfl ?_
                      refine zr_bipushv (v := 6) F zd_XSight_cutBySide_171 (by decide) ?_
                      refine zr_iload F zd_XSight_cutBySide_173 rfl ?_
                      refine zr_imul F zd_XSight_cutBySide_175 ?_
                      refine zr_lload F zd_XSight_cutBySide_176 rfl ?_
                      refine zr_pcn 178 rfl ?_
                      refine zr_bipushv (v := 6) F zd_XSight_cutBySide_178 (by decide) ?_
                      refine zr_iload F zd_XSight_cutBySide_180 rfl ?_
                      refine zr_imul F zd_XSight_cutBySide_182 ?_
                      obtain ⟨le101, hs100, h⟩ := zoS_s h
                      obtain ⟨p102, ep102, h⟩ := zoB_s h
                      refine zr_callV0 F (k_XSight_putBetween l D tA b sh _ ep102) zd_XSight_cutBySide_183 (zW_o hs100 (by decide)) rfl zs_XSight_216 rfl zq_XSight_putBetween rfl rfl ⟨(Nat.le_of_ble_eq_true rfl), (Nat.le_of_ble_eq_true rfl)⟩ (Nat.le_of_ble_eq_true rfl) ⟨(Nat.le_of_ble_eq_true rfl), (Nat.le_of_ble_eq_true rfl)⟩ ?_
                      refine zr_iinc (v := ((v6 + 1) + 1)) F zd_XSight_cutBySide_186 rfl rfl (by decide) ?_
                      refine zr_lload F zd_XSight_cutBySide_189 rfl ?_
                      refine zr_lstore F zd_XSight_cutBySide_191 (by decide) ?_
                      refine zr_iinc (v := (v7 + 1)) F zd_XSight_cutBySide_193 rfl rfl (by decide) ?_
                      refine zr_loc (L' := [(0, .ref (b + v0)), (1, .int v1), (2, .long v2), (4, .long (p60.1)), (6, .int ((v6 + 1) + 1)), (7, .int (v7 + 1))]) ⟨rfl, rfl, rfl, rfl, rfl, rfl, trivial⟩ ?_
                      refine zr_pcn 196 rfl ?_
                      refine zr_goto F 16 zd_XSight_cutBySide_196 (by decide) ?_
                      refine zr_loc (L' := [(0, .ref (b + v0)), (1, .int v1), (2, .long v2), (4, .long (p60.1)), (6, .int ((v6 + 1) + 1)), (7, .int (v7 + 1))]) ⟨rfl, rfl, rfl, rfl, rfl, rfl, trivial⟩ ?_
                      exact ih _ _ _ _ _ _ _ _ h hx0
                ·
                  replace h := (if_neg hb97).symm.trans h
                  refine zr_aload_n F zd_XSight_cutBySide_120 rfl ?_
                  refine zr_bipushv (v := 6) F zd_XSight_cutBySide_121 (by decide) ?_
                  refine zr_iload F zd_XSight_cutBySide_123 rfl ?_
                  refine zr_imul F zd_XSight_cutBySide_125 ?_
                  refine zr_lload F zd_XSight_cutBySide_126 rfl ?_
                  refine zr_bipushv (v := 6) F zd_XSight_cutBySide_128 (by decide) ?_
                  refine zr_iload F zd_XSight_cutBySide_130 rfl ?_
                  refine zr_pcn 132 rfl ?_
                  refine zr_imul F zd_XSight_cutBySide_132 ?_
                  refine zr_lload F zd_XSight_cutBySide_133 rfl ?_
                  refine zr_bipushv (v := 6) F zd_XSight_cutBySide_135 (by decide) ?_
                  refine zr_iload F zd_XSight_cutBySide_137 rfl ?_
                  refine zr_imul F zd_XSight_cutBySide_139 ?_
                  obtain ⟨le104, hs103, h⟩ := zoS_s h
                  obtain ⟨p105, ep105, h⟩ := zoB_s h
                  refine zr_callV0 F (k_XSight_putBetween l D tA b sh _ ep105) zd_XSight_cutBySide_140 (zW_o hs103 (by decide)) rfl zs_XSight_216 rfl zq_XSight_putBetween rfl rfl ⟨(Nat.le_of_ble_eq_true rfl), (Nat.le_of_ble_eq_true rfl)⟩ (Nat.le_of_ble_eq_true rfl) ⟨(Nat.le_of_ble_eq_true rfl), (Nat.le_of_ble_eq_true rfl)⟩ ?_
                  refine zr_iinc (v := ((v6 + 1) + 1)) F zd_XSight_cutBySide_143 rfl rfl (by decide) ?_
                  refine zr_goto F 189 zd_XSight_cutBySide_146 (by decide) ?_
                  refine zr_pcn 189 rfl ?_
                  refine zr_lload F zd_XSight_cutBySide_189 rfl ?_
                  refine zr_lstore F zd_XSight_cutBySide_191 (by decide) ?_
                  refine zr_iinc (v := (v7 + 1)) F zd_XSight_cutBySide_193 rfl rfl (by decide) ?_
                  refine zr_loc (L' := [(0, .ref (b + v0)), (1, .int v1), (2, .long v2), (4, .long (p60.1)), (6, .int ((v6 + 1) + 1)), (7, .int (v7 + 1))]) ⟨rfl, rfl, rfl, rfl, rfl, rfl, trivial⟩ ?_
                  refine zr_goto F 16 zd_XSight_cutBySide_196 (by decide) ?_
                  refine zr_loc (L' := [(0, .ref (b + v0)), (1, .int v1), (2, .long v2), (4, .long (p60.1)), (6, .int ((v6 + 1) + 1)), (7, .int (v7 + 1))]) ⟨rfl, rfl, rfl, rfl, rfl, rfl, trivial⟩ ?_
                  exact ih _ _ _ _ _ _ _ _ h hx0
          ·
            replace h := (if_pos hb57).symm.trans h
            refine zr_lload_n F zd_XSight_cutBySide_60 rfl ?_
            refine zr_goto F 71 zd_XSight_cutBySide_61 (by decide) ?_
            refine zr_lstore F zd_XSight_cutBySide_71 (by decide) ?_
            refine zr_lload F zd_XSight_cutBySide_73 rfl ?_
            refine zr_pcn 75 rfl ?_
            refine zr_lconstv (v := 0) F zd_XSight_cutBySide_75 (by decide) ?_
            refine zr_lcmp F zd_XSight_cutBySide_76 ?_
            refine zr_if_lt F 106 zd_XSight_cutBySide_77 (by decide) (fun hb106 => ?_) (fun hb106 => ?_)
            ·
              replace h := (if_pos hb106).symm.trans h
              refine zr_lload F zd_XSight_cutBySide_106 rfl ?_
              refine zr_lconstv (v := 0) F zd_XSight_cutBySide_108 (by decide) ?_
              refine zr_lcmp F zd_XSight_cutBySide_109 ?_
              refine zr_if_lt F 149 zd_XSight_cutBySide_110 (by decide) (fun hb107 => ?_) (fun hb107 => ?_)
              ·
                replace h := (if_pos hb107).symm.trans h
                refine zr_lload F zd_XSight_cutBySide_149 rfl ?_
                refine zr_pcn 151 rfl ?_
                refine zr_lconstv (v := 0) F zd_XSight_cutBySide_151 (by decide) ?_
                refine zr_lcmp F zd_XSight_cutBySide_152 ?_
                refine zr_if_ge F 189 zd_XSight_cutBySide_153 (by decide) (fun hb108 => ?_) (fun hb108 => ?_)
                ·
                  replace h := (if_pos hb108).symm.trans h
                  refine zr_lload F zd_XSight_cutBySide_189 rfl ?_
                  refine zr_lstore F zd_XSight_cutBySide_191 (by decide) ?_
                  refine zr_loc (L' := [(0, .ref (b + v0)), (1, .int v1), (2, .long v2), (4, .long v2), (6, .int v6), (7, .int v7)]) ⟨rfl, rfl, rfl, rfl, rfl, rfl, trivial⟩ ?_
                  refine zr_iinc (v := (v7 + 1)) F zd_XSight_cutBySide_193 rfl rfl (by decide) ?_
                  refine zr_goto F 16 zd_XSight_cutBySide_196 (by decide) ?_
                  refine zr_loc (L' := [(0, .ref (b + v0)), (1, .int v1), (2, .long v2), (4, .long v2), (6, .int v6), (7, .int (v7 + 1))]) ⟨rfl, rfl, rfl, rfl, rfl, rfl, trivial⟩ ?_
                  exact ih _ _ _ _ _ _ _ _ h hx0
                ·
                  replace h := (if_neg hb108).symm.trans h
                  refine zr_lload F zd_XSight_cutBySide_156 rfl ?_
                  refine zr_pcn 158 rfl ?_
                  refine zr_lconstv (v := 0) F zd_XSight_cutBySide_158 (by decide) ?_
                  refine zr_lcmp F zd_XSight_cutBySide_159 ?_
                  refine zr_if_lt F 189 zd_XSight_cutBySide_160 (by decide) (fun hb109 => ?_) (fun hb109 => ?_)
                  ·
                    replace h := (if_pos hb109).symm.trans h
                    refine zr_lload F zd_XSight_cutBySide_189 rfl ?_
                    refine zr_lstore F zd_XSight_cutBySide_191 (by decide) ?_
                    refine zr_loc (L' := [(0, .ref (b + v0)), (1, .int v1), (2, .long v2), (4, .long v2), (6, .int v6), (7, .int v7)]) ⟨rfl, rfl, rfl, rfl, rfl, rfl, trivial⟩ ?_
                    refine zr_iinc (v := (v7 + 1)) F zd_XSight_cutBySide_193 rfl rfl (by decide) ?_
                    refine zr_goto F 16 zd_XSight_cutBySide_196 (by decide) ?_
                    refine zr_loc (L' := [(0, .ref (b + v0)), (1, .int v1), (2, .long v2), (4, .long v2), (6, .int v6), (7, .int (v7 + 1))]) ⟨rfl, rfl, rfl, rfl, rfl, rfl, trivial⟩ ?_
                    exact ih _ _ _ _ _ _ _ _ h hx0
                  ·
                    replace h := (if_neg hb109).symm.trans h
                    refine zr_aload_n F zd_XSight_cutBySide_163 rfl ?_
                    refine zr_pcn 164 rfl ?_
                    refine zr_bipushv (v := 6) F zd_XSight_cutBySide_164 (by decide) ?_
                    refine zr_iload F zd_XSight_cutBySide_166 rfl ?_
                    refine zr_imul F zd_XSight_cutBySide_168 ?_
                    refine zr_lload F zd_XSight_cutBySide_169 rfl ?_
                    refine zr_bipushv (v := 6) F zd_XSight_cutBySide_171 (by decide) ?_
                    refine zr_iload F zd_XSight_cutBySide_173 rfl ?_
                    refine zr_imul F zd_XSight_cutBySide_175 ?_
                    refine zr_lload F zd_XSight_cutBySide_176 rfl ?_
                    refine zr_pcn 178 rfl ?_
                    refine zr_bipushv (v := 6) F zd_XSight_cutBySide_178 (by decide) ?_
                    refine zr_iload F zd_XSight_cutBySide_180 rfl ?_
                    refine zr_imul F zd_XSight_cutBySide_182 ?_
                    obtain ⟨le111, hs110, h⟩ := zoS_s h
                    obtain ⟨p112, ep112, h⟩ := zoB_s h
                    refine zr_callV0 F (k_XSight_putBetween l D tA b sh _ ep112) zd_XSight_cutBySide_183 (zW_o hs110 (by decide)) rfl zs_XSight_216 rfl zq_XSight_putBetween rfl rfl ⟨(Nat.le_of_ble_eq_true rfl), (Nat.le_of_ble_eq_true rfl)⟩ (Nat.le_of_ble_eq_true rfl) ⟨(Nat.le_of_ble_eq_true rfl), (Nat.le_of_ble_eq_true rfl)⟩ ?_
                    refine zr_iinc (v := (v6 + 1)) F zd_XSight_cutBySide_186 rfl rfl (by decide) ?_
                    refine zr_loc (L' := [(0, .ref (b + v0)), (1, .int v1), (2, .long v2), (4, .long v4), (6, .int (v6 + 1)), (7, .int v7), (9, .long v2)]) ⟨rfl, rfl, rfl, rfl, rfl, rfl, rfl, trivial⟩ ?_
                    refine zr_lload F zd_XSight_cutBySide_189 rfl ?_
                    refine zr_lstore F zd_XSight_cutBySide_191 (by decide) ?_
                    refine zr_iinc (v := (v7 + 1)) F zd_XSight_cutBySide_193 rfl rfl (by decide) ?_
                    refine zr_pcn 196 rfl ?_
                    refine zr_goto F 16 zd_XSight_cutBySide_196 (by decide) ?_
                    refine zr_loc (L' := [(0, .ref (b + v0)), (1, .int v1), (2, .long v2), (4, .long v2), (6, .int (v6 + 1)), (7, .int (v7 + 1))]) ⟨rfl, rfl, rfl, rfl, rfl, rfl, trivial⟩ ?_
                    exact ih _ _ _ _ _ _ _ _ h hx0
              ·
                replace h := (if_neg hb107).symm.trans h
                refine zr_lload F zd_XSight_cutBySide_113 rfl ?_
                refine zr_lconstv (v := 0) F zd_XSight_cutBySide_115 (by decide) ?_
                refine zr_lcmp F zd_XSight_cutBySide_116 ?_
                refine zr_if_ge F 149 zd_XSight_cutBySide_117 (by decide) (fun hb113 => ?_) (fun hb113 => ?_)
                ·
                  replace h := (if_pos hb113).symm.trans h
                  refine zr_lload F zd_XSight_cutBySide_149 rfl ?_
                  refine zr_lconstv (v := 0) F zd_XSight_cutBySide_151 (by decide) ?_
                  refine zr_lcmp F zd_XSight_cutBySide_152 ?_
                  refine zr_pcn 153 rfl ?_
                  refine zr_if_ge F 189 zd_XSight_cutBySide_153 (by decide) (fun hb114 => ?_) (fun hb114 => ?_)
                  ·
                    replace h := (if_pos hb114).symm.trans h
                    refine zr_lload F zd_XSight_cutBySide_189 rfl ?_
                    refine zr_lstore F zd_XSight_cutBySide_191 (by decide) ?_
                    refine zr_loc (L' := [(0, .ref (b + v0)), (1, .int v1), (2, .long v2), (4, .long v2), (6, .int v6), (7, .int v7)]) ⟨rfl, rfl, rfl, rfl, rfl, rfl, trivial⟩ ?_
                    refine zr_iinc (v := (v7 + 1)) F zd_XSight_cutBySide_193 rfl rfl (by decide) ?_
                    refine zr_goto F 16 zd_XSight_cutBySide_196 (by decide) ?_
                    refine zr_loc (L' := [(0, .ref (b + v0)), (1, .int v1), (2, .long v2), (4, .long v2), (6, .int v6), (7, .int (v7 + 1))]) ⟨rfl, rfl, rfl, rfl, rfl, rfl, trivial⟩ ?_
                    exact ih _ _ _ _ _ _ _ _ h hx0
                  ·
                    replace h := (if_neg hb114).symm.trans h
                    refine zr_lload F zd_XSight_cutBySide_156 rfl ?_
                    refine zr_lconstv (v := 0) F zd_XSight_cutBySide_158 (by decide) ?_
                    refine zr_lcmp F zd_XSight_cutBySide_159 ?_
                    refine zr_pcn 160 rfl ?_
                    refine zr_if_lt F 189 zd_XSight_cutBySide_160 (by decide) (fun hb115 => ?_) (fun hb115 => ?_)
                    ·
                      replace h := (if_pos hb115).symm.trans h
                      refine zr_lload F zd_XSight_cutBySide_189 rfl ?_
                      refine zr_lstore F zd_XSight_cutBySide_191 (by decide) ?_
                      refine zr_loc (L' := [(0, .ref (b + v0)), (1, .int v1), (2, .long v2), (4, .long v2), (6, .int v6), (7, .int v7)]) ⟨rfl, rfl, rfl, rfl, rfl, rfl, trivial⟩ ?_
                      refine zr_iinc (v := (v7 + 1)) F zd_XSight_cutBySide_193 rfl rfl (by decide) ?_
                      refine zr_goto F 16 zd_XSight_cutBySide_196 (by decide) ?_
                      refine zr_loc (L' := [(0, .ref (b + v0)), (1, .int v1), (2, .long v2), (4, .long v2), (6, .int v6), (7, .int (v7 + 1))]) ⟨rfl, rfl, rfl, rfl, rfl, rfl, trivial⟩ ?_
                      exact ih _ _ _ _ _ _ _ _ h hx0
                    ·
                      replace h := (if_neg hb115).symm.trans h
                      refine zr_aload_n F zd_XSight_cutBySide_163 rfl ?_
                      refine zr_bipushv (v := 6) F zd_XSight_cutBySide_164 (by decide) ?_
                      refine zr_iload F zd_XSight_cutBySide_166 rfl ?_
                      refine zr_pcn 168 rfl ?_
                      refine zr_imul F zd_XSight_cutBySide_168 ?_
                      refine zr_lload F zd_XSight_cutBySide_169 rfl ?_
                      refine zr_bipushv (v := 6) F zd_XSight_cutBySide_171 (by decide) ?_
                      refine zr_iload F zd_XSight_cutBySide_173 rfl ?_
                      refine zr_imul F zd_XSight_cutBySide_175 ?_
                      refine zr_lload F zd_XSight_cutBySide_176 rfl ?_
                      refine zr_bipushv (v := 6) F zd_XSight_cutBySide_178 (by decide) ?_
                      refine zr_iload F zd_XSight_cutBySide_180 rfl ?_
                      refine zr_pcn 182 rfl ?_
                      refine zr_imul F zd_XSight_cutBySide_182 ?_
                      obtain ⟨le117, hs116, h⟩ := zoS_s h
                      obtain ⟨p118, ep118, h⟩ := zoB_s h
                      refine zr_callV0 F (k_XSight_putBetween l D tA b sh _ ep118) zd_XSight_cutBySide_183 (zW_o hs116 (by decide)) rfl zs_XSight_216 rfl zq_XSight_putBetween rfl rfl ⟨(Nat.le_of_ble_eq_true rfl), (Nat.le_of_ble_eq_true rfl)⟩ (Nat.le_of_ble_eq_true rfl) ⟨(Nat.le_of_ble_eq_true rfl), (Nat.le_of_ble_eq_true rfl)⟩ ?_
                      refine zr_iinc (v := (v6 + 1)) F zd_XSight_cutBySide_186 rfl rfl (by decide) ?_
                      refine zr_loc (L' := [(0, .ref (b + v0)), (1, .int v1), (2, .long v2), (4, .long v4), (6, .int (v6 + 1)), (7, .int v7), (9, .long v2)]) ⟨rfl, rfl, rfl, rfl, rfl, rfl, rfl, trivial⟩ ?_
                      refine zr_lload F zd_XSight_cutBySide_189 rfl ?_
                      refine zr_lstore F zd_XSight_cutBySide_191 (by decide) ?_
                      refine zr_iinc (v := (v7 + 1)) F zd_XSight_cutBySide_193 rfl rfl (by decide) ?_
                      refine zr_goto F 16 zd_XSight_cutBySide_196 (by decide) ?_
                      refine zr_loc (L' := [(0, .ref (b + v0)), (1, .int v1), (2, .long v2), (4, .long v2), (6, .int (v6 + 1)), (7, .int (v7 + 1))]) ⟨rfl, rfl, rfl, rfl, rfl, rfl, trivial⟩ ?_
                      exact ih _ _ _ _ _ _ _ _ h hx0
                ·
                  replace h := (if_neg hb113).symm.trans h
                  refine zr_aload_n F zd_XSight_cutBySide_120 rfl ?_
                  refine zr_pcn 121 rfl ?_
                  refine zr_bipushv (v := 6) F zd_XSight_cutBySide_121 (by decide) ?_
                  refine zr_iload F zd_XSight_cutBySide_123 rfl ?_
                  refine zr_imul F zd_XSight_cutBySide_125 ?_
                  refine zr_lload F zd_XSight_cutBySide_126 rfl ?_
                  refine zr_bipushv (v := 6) F zd_XSight_cutBySide_128 (by decide) ?_
                  refine zr_iload F zd_XSight_cutBySide_130 rfl ?_
                  refine zr_imul F zd_XSight_cutBySide_132 ?_
                  refine zr_lload F zd_XSight_cutBySide_133 rfl ?_
                  refine zr_pcn 135 rfl ?_
                  refine zr_bipushv (v := 6) F zd_XSight_cutBySide_135 (by decide) ?_
                  refine zr_iload F zd_XSight_cutBySide_137 rfl ?_
                  refine zr_imul F zd_XSight_cutBySide_139 ?_
                  obtain ⟨le120, hs119, h⟩ := zoS_s h
                  obtain ⟨p121, ep121, h⟩ := zoB_s h
                  refine zr_callV0 F (k_XSight_putBetween l D tA b sh _ ep121) zd_XSight_cutBySide_140 (zW_o hs119 (by decide)) rfl zs_XSight_216 rfl zq_XSight_putBetween rfl rfl ⟨(Nat.le_of_ble_eq_true rfl), (Nat.le_of_ble_eq_true rfl)⟩ (Nat.le_of_ble_eq_true rfl) ⟨(Nat.le_of_ble_eq_true rfl), (Nat.le_of_ble_eq_true rfl)⟩ ?_
                  refine zr_iinc (v := (v6 + 1)) F zd_XSight_cutBySide_143 rfl rfl (by decide) ?_
                  refine zr_loc (L' := [(0, .ref (b + v0)), (1, .int v1), (2, .long v2), (4, .long v4), (6, .int (v6 + 1)), (7, .int v7), (9, .long v2)]) ⟨rfl, rfl, rfl, rfl, rfl, rfl, rfl, trivial⟩ ?_
                  refine zr_goto F 189 zd_XSight_cutBySide_146 (by decide) ?_
                  refine zr_lload F zd_XSight_cutBySide_189 rfl ?_
                  refine zr_lstore F zd_XSight_cutBySide_191 (by decide) ?_
                  refine zr_pcn 193 rfl ?_
                  refine zr_iinc (v := (v7 + 1)) F zd_XSight_cutBySide_193 rfl rfl (by decide) ?_
                  refine zr_goto F 16 zd_XSight_cutBySide_196 (by decide) ?_
                  refine zr_loc (L' := [(0, .ref (b + v0)), (1, .int v1), (2, .long v2), (4, .long v2), (6, .int (v6 + 1)), (7, .int (v7 + 1))]) ⟨rfl, rfl, rfl, rfl, rfl, rfl, trivial⟩ ?_
                  exact ih _ _ _ _ _ _ _ _ h hx0
            ·
              replace h := (if_neg hb106).symm.trans h
              refine zr_aload_n F zd_XSight_cutBySide_80 rfl ?_
              obtain ⟨le123, hs122, h⟩ := zoS_s h
              obtain ⟨a124, ea124, h⟩ := zoB_s h
              refine zr_get F 9 2 zd_XSight_cutBySide_81 (zW_o hs122 (by decide)) rfl (by decide) zw_375 rfl (by rfl) ?_
              refine zr_tor ea124 ?_
              refine zr_bipushv (v := 6) F zd_XSight_cutBySide_84 (by decide) ?_
              refine zr_iload F zd_XSight_cutBySide_86 rfl ?_
              refine zr_imul F zd_XSight_cutBySide_88 ?_
              refine zr_aload_n F zd_XSight_cutBySide_89 rfl ?_
              refine zr_pcn 90 rfl ?_
              obtain ⟨le126, hs125, h⟩ := zoS_s h
              obtain ⟨a127, ea127, h⟩ := zoB_s h
              refine zr_get F 9 14 zd_XSight_cutBySide_90 (zW_o hs125 (by decide)) rfl (by decide) zw_387 rfl (by rfl) ?_
              refine zr_tor ea127 ?_
              refine zr_bipushv (v := 6) F zd_XSight_cutBySide_93 (by decide) ?_
              refine zr_iload F zd_XSight_cutBySide_95 rfl ?_
              refine zr_imul F zd_XSight_cutBySide_97 ?_
              refine zr_bipushv (v := 6) F zd_XSight_cutBySide_98 (by decide) ?_
              obtain ⟨x128, ex128, h⟩ := zoL_s h
              rw [← ex128]
              obtain ⟨x129, ex129, h⟩ := zoL_s h
              rw [← ex129]
              obtain ⟨le130, hs131, h⟩ := zoS_s h
              obtain ⟨le132, hs133, h⟩ := zoS_s h
              obtain ⟨hc134, h⟩ := zoT_s h
              obtain ⟨mm135, emm135, h⟩ := zoL_s h
              refine zr_copy F zd_XSight_cutBySide_100 zw_722 zw_724 zw_723 zw_26 (zW_a0 hs131) (zW_a0 hs133) hc134.1 hc134.2.1 hc134.2.2.1 hc134.2.2.2.1 hc134.2.2.2.2 (Nat.le_of_ble_eq_true rfl) (Nat.le_of_ble_eq_true rfl) ?_
              refine zr_norm (zW tA b sh mm135) _ (by rw [emm135]; exact zW_c hs133) rfl ?_
              refine zr_iinc (v := (v6 + 1)) F zd_XSight_cutBySide_103 rfl rfl (by decide) ?_
              refine zr_loc (L' := [(0, .ref (b + v0)), (1, .int v1), (2, .long v2), (4, .long v4), (6, .int (v6 + 1)), (7, .int v7), (8, .int x56), (9, .long v2)]) ⟨rfl, rfl, rfl, rfl, rfl, rfl, rfl, rfl, trivial⟩ ?_
              refine zr_lload F zd_XSight_cutBySide_106 rfl ?_
              refine zr_pcn 108 rfl ?_
              refine zr_lconstv (v := 0) F zd_XSight_cutBySide_108 (by decide) ?_
              refine zr_lcmp F zd_XSight_cutBySide_109 ?_
              refine zr_if_lt F 149 zd_XSight_cutBySide_110 (by decide) (fun hb136 => ?_) (fun hb136 => ?_)
              ·
                replace h := (if_pos hb136).symm.trans h
                refine zr_lload F zd_XSight_cutBySide_149 rfl ?_
                refine zr_lconstv (v := 0) F zd_XSight_cutBySide_151 (by decide) ?_
                refine zr_lcmp F zd_XSight_cutBySide_152 ?_
                refine zr_if_ge F 189 zd_XSight_cutBySide_153 (by decide) (fun hb137 => ?_) (fun hb137 => ?_)
                ·
                  replace h := (if_pos hb137).symm.trans h
                  refine zr_lload F zd_XSight_cutBySide_189 rfl ?_
                  refine zr_pcn 191 rfl ?_
                  refine zr_lstore F zd_XSight_cutBySide_191 (by decide) ?_
                  refine zr_iinc (v := (v7 + 1)) F zd_XSight_cutBySide_193 rfl rfl (by decide) ?_
                  refine zr_goto F 16 zd_XSight_cutBySide_196 (by decide) ?_
                  refine zr_loc (L' := [(0, .ref (b + v0)), (1, .int v1), (2, .long v2), (4, .long v2), (6, .int (v6 + 1)), (7, .int (v7 + 1))]) ⟨rfl, rfl, rfl, rfl, rfl, rfl, trivial⟩ ?_
                  exact ih _ _ _ _ _ _ _ _ h hx0
                ·
                  replace h := (if_neg hb137).symm.trans h
                  refine zr_lload F zd_XSight_cutBySide_156 rfl ?_
                  refine zr_lconstv (v := 0) F zd_XSight_cutBySide_158 (by decide) ?_
                  refine zr_lcmp F zd_XSight_cutBySide_159 ?_
                  refine zr_if_lt F 189 zd_XSight_cutBySide_160 (by decide) (fun hb138 => ?_) (fun hb138 => ?_)
                  ·
                    replace h := (if_pos hb138).symm.trans h
                    refine zr_lload F zd_XSight_cutBySide_189 rfl ?_
                    refine zr_pcn 191 rfl ?_
                    refine zr_lstore F zd_XSight_cutBySide_191 (by decide) ?_
                    refine zr_iinc (v := (v7 + 1)) F zd_XSight_cutBySide_193 rfl rfl (by decide) ?_
                    refine zr_goto F 16 zd_XSight_cutBySide_196 (by decide) ?_
                    refine zr_loc (L' := [(0, .ref (b + v0)), (1, .int v1), (2, .long v2), (4, .long v2), (6, .int (v6 + 1)), (7, .int (v7 + 1))]) ⟨rfl, rfl, rfl, rfl, rfl, rfl, trivial⟩ ?_
                    exact ih _ _ _ _ _ _ _ _ h hx0
                  ·
                    replace h := (if_neg hb138).symm.trans h
                    refine zr_aload_n F zd_XSight_cutBySide_163 rfl ?_
                    refine zr_bipushv (v := 6) F zd_XSight_cutBySide_164 (by decide) ?_
                    refine zr_iload F zd_XSight_cutBySide_166 rfl ?_
                    refine zr_imul F zd_XSight_cutBySide_168 ?_
                    refine zr_lload F zd_XSight_cutBySide_169 rfl ?_
                    refine zr_pcn 171 rfl ?_
                    refine zr_bipushv (v := 6) F zd_XSight_cutBySide_171 (by decide) ?_
                    refine zr_iload F zd_XSight_cutBySide_173 rfl ?_
                    refine zr_imul F zd_XSight_cutBySide_175 ?_
                    refine zr_lload F zd_XSight_cutBySide_176 rfl ?_
                    refine zr_bipushv (v := 6) F zd_XSight_cutBySide_178 (by decide) ?_
                    refine zr_iload F zd_XSight_cutBySide_180 rfl ?_
                    refine zr_imul F zd_XSight_cutBySide_182 ?_
                    obtain ⟨le140, hs139, h⟩ := zoS_s h
                    obtain ⟨p141, ep141, h⟩ := zoB_s h
                    refine zr_callV0 F (k_XSight_putBetween l D tA b sh _ ep141) zd_XSight_cutBySide_183 (zW_o hs139 (by decide)) rfl zs_XSight_216 rfl zq_XSight_putBetween rfl rfl ⟨(Nat.le_of_ble_eq_true rfl), (Nat.le_of_ble_eq_true rfl)⟩ (Nat.le_of_ble_eq_true rfl) ⟨(Nat.le_of_ble_eq_true rfl), (Nat.le_of_ble_eq_true rfl)⟩ ?_
                    refine zr_pcn 186 rfl ?_
                    refine zr_iinc (v := ((v6 + 1) + 1)) F zd_XSight_cutBySide_186 rfl rfl (by decide) ?_
                    refine zr_lload F zd_XSight_cutBySide_189 rfl ?_
                    refine zr_lstore F zd_XSight_cutBySide_191 (by decide) ?_
                    refine zr_iinc (v := (v7 + 1)) F zd_XSight_cutBySide_193 rfl rfl (by decide) ?_
                    refine zr_loc (L' := [(0, .ref (b + v0)), (1, .int v1), (2, .long v2), (4, .long v2), (6, .int ((v6 + 1) + 1)), (7, .int (v7 + 1))]) ⟨rfl, rfl, rfl, rfl, rfl, rfl, trivial⟩ ?_
                    refine zr_goto F 16 zd_XSight_cutBySide_196 (by decide) ?_
                    refine zr_loc (L' := [(0, .ref (b + v0)), (1, .int v1), (2, .long v2), (4, .long v2), (6, .int ((v6 + 1) + 1)), (7, .int (v7 + 1))]) ⟨rfl, rfl, rfl, rfl, rfl, rfl, trivial⟩ ?_
                    exact ih _ _ _ _ _ _ _ _ h hx0
              ·
                replace h := (if_neg hb136).symm.trans h
                refine zr_lload F zd_XSight_cutBySide_113 rfl ?_
                refine zr_lconstv (v := 0) F zd_XSight_cutBySide_115 (by decide) ?_
                refine zr_lcmp F zd_XSight_cutBySide_116 ?_
                refine zr_pcn 117 rfl ?_
                refine zr_if_ge F 149 zd_XSight_cutBySide_117 (by decide) (fun hb142 => ?_) (fun hb142 => ?_)
                ·
                  replace h := (if_pos hb142).symm.trans h
                  refine zr_lload F zd_XSight_cutBySide_149 rfl ?_
                  refine zr_lconstv (v := 0) F zd_XSight_cutBySide_151 (by decide) ?_
                  refine zr_lcmp F zd_XSight_cutBySide_152 ?_
                  refine zr_if_ge F 189 zd_XSight_cutBySide_153 (by decide) (fun hb143 => ?_) (fun hb143 => ?_)
                  ·
                    replace h := (if_pos hb143).symm.trans h
                    refine zr_lload F zd_XSight_cutBySide_189 rfl ?_
                    refine zr_lstore F zd_XSight_cutBySide_191 (by decide) ?_
                    refine zr_iinc (v := (v7 + 1)) F zd_XSight_cutBySide_193 rfl rfl (by decide) ?_
                    refine zr_pcn 196 rfl ?_
                    refine zr_goto F 16 zd_XSight_cutBySide_196 (by decide) ?_
                    refine zr_loc (L' := [(0, .ref (b + v0)), (1, .int v1), (2, .long v2), (4, .long v2), (6, .int (v6 + 1)), (7, .int (v7 + 1))]) ⟨rfl, rfl, rfl, rfl, rfl, rfl, trivial⟩ ?_
                    exact ih _ _ _ _ _ _ _ _ h hx0
                  ·
                    replace h := (if_neg hb143).symm.trans h
                    refine zr_lload F zd_XSight_cutBySide_156 rfl ?_
                    refine zr_lconstv (v := 0) F zd_XSight_cutBySide_158 (by decide) ?_
                    refine zr_lcmp F zd_XSight_cutBySide_159 ?_
                    refine zr_if_lt F 189 zd_XSight_cutBySide_160 (by decide) (fun hb144 => ?_) (fun hb144 => ?_)
                    ·
                      replace h := (if_pos hb144).symm.trans h
                      refine zr_lload F zd_XSight_cutBySide_189 rfl ?_
                      refine zr_lstore F zd_XSight_cutBySide_191 (by decide) ?_
                      refine zr_iinc (v := (v7 + 1)) F zd_XSight_cutBySide_193 rfl rfl (by decide) ?_
                      refine zr_pcn 196 rfl ?_
                      refine zr_goto F 16 zd_XSight_cutBySide_196 (by decide) ?_
                      refine zr_loc (L' := [(0, .ref (b + v0)), (1, .int v1), (2, .long v2), (4, .long v2), (6, .int (v6 + 1)), (7, .int (v7 + 1))]) ⟨rfl, rfl, rfl, rfl, rfl, rfl, trivial⟩ ?_
                      exact ih _ _ _ _ _ _ _ _ h hx0
                    ·
                      replace h := (if_neg hb144).symm.trans h
                      refine zr_aload_n F zd_XSight_cutBySide_163 rfl ?_
                      refine zr_bipushv (v := 6) F zd_XSight_cutBySide_164 (by decide) ?_
                      refine zr_iload F zd_XSight_cutBySide_166 rfl ?_
                      refine zr_imul F zd_XSight_cutBySide_168 ?_
                      refine zr_lload F zd_XSight_cutBySide_169 rfl ?_
                      refine zr_bipushv (v := 6) F zd_XSight_cutBySide_171 (by decide) ?_
                      refine zr_iload F zd_XSight_cutBySide_173 rfl ?_
                      refine zr_pcn 175 rfl ?_
                      refine zr_imul F zd_XSight_cutBySide_175 ?_
                      refine zr_lload F zd_XSight_cutBySide_176 rfl ?_
                      refine zr_bipushv (v := 6) F zd_XSight_cutBySide_178 (by decide) ?_
                      refine zr_iload F zd_XSight_cutBySide_180 rfl ?_
                      refine zr_imul F zd_XSight_cutBySide_182 ?_
                      obtain ⟨le146, hs145, h⟩ := zoS_s h
                      obtain ⟨p147, ep147, h⟩ := zoB_s h
                      refine zr_callV0 F (k_XSight_putBetween l D tA b sh _ ep147) zd_XSight_cutBySide_183 (zW_o hs145 (by decide)) rfl zs_XSight_216 rfl zq_XSight_putBetween rfl rfl ⟨(Nat.le_of_ble_eq_true rfl), (Nat.le_of_ble_eq_true rfl)⟩ (Nat.le_of_ble_eq_true rfl) ⟨(Nat.le_of_ble_eq_true rfl), (Nat.le_of_ble_eq_true rfl)⟩ ?_
                      refine zr_iinc (v := ((v6 + 1) + 1)) F zd_XSight_cutBySide_186 rfl rfl (by decide) ?_
                      refine zr_lload F zd_XSight_cutBySide_189 rfl ?_
                      refine zr_pcn 191 rfl ?_
                      refine zr_lstore F zd_XSight_cutBySide_191 (by decide) ?_
                      refine zr_iinc (v := (v7 + 1)) F zd_XSight_cutBySide_193 rfl rfl (by decide) ?_
                      refine zr_loc (L' := [(0, .ref (b + v0)), (1, .int v1), (2, .long v2), (4, .long v2), (6, .int ((v6 + 1) + 1)), (7, .int (v7 + 1))]) ⟨rfl, rfl, rfl, rfl, rfl, rfl, trivial⟩ ?_
                      refine zr_goto F 16 zd_XSight_cutBySide_196 (by decide) ?_
                      refine zr_loc (L' := [(0, .ref (b + v0)), (1, .int v1), (2, .long v2), (4, .long v2), (6, .int ((v6 + 1) + 1)), (7, .int (v7 + 1))]) ⟨rfl, rfl, rfl, rfl, rfl, rfl, trivial⟩ ?_
                      exact ih _ _ _ _ _ _ _ _ h hx0
                ·
                  replace h := (if_neg hb142).symm.trans h
                  refine zr_aload_n F zd_XSight_cutBySide_120 rfl ?_
                  refine zr_bipushv (v := 6) F zd_XSight_cutBySide_121 (by decide) ?_
                  refine zr_iload F zd_XSight_cutBySide_123 rfl ?_
                  refine zr_imul F zd_XSight_cutBySide_125 ?_
                  refine zr_lload F zd_XSight_cutBySide_126 rfl ?_
                  refine zr_pcn 128 rfl ?_
                  refine zr_bipushv (v := 6) F zd_XSight_cutBySide_128 (by decide) ?_
                  refine zr_iload F zd_XSight_cutBySide_130 rfl ?_
                  refine zr_imul F zd_XSight_cutBySide_132 ?_
                  refine zr_lload F zd_XSight_cutBySide_133 rfl ?_
                  refine zr_bipushv (v := 6) F zd_XSight_cutBySide_135 (by decide) ?_
                  refine zr_iload F zd_XSight_cutBySide_137 rfl ?_
                  refine zr_imul F zd_XSight_cutBySide_139 ?_
                  obtain ⟨le149, hs148, h⟩ := zoS_s h
                  obtain ⟨p150, ep150, h⟩ := zoB_s h
                  refine zr_callV0 F (k_XSight_putBetween l D tA b sh _ ep150) zd_XSight_cutBySide_140 (zW_o hs148 (by decide)) rfl zs_XSight_216 rfl zq_XSight_putBetween rfl rfl ⟨(Nat.le_of_ble_eq_true rfl), (Nat.le_of_ble_eq_true rfl)⟩ (Nat.le_of_ble_eq_true rfl) ⟨(Nat.le_of_ble_eq_true rfl), (Nat.le_of_ble_eq_true rfl)⟩ ?_
                  refine zr_pcn 143 rfl ?_
                  refine zr_iinc (v := ((v6 + 1) + 1)) F zd_XSight_cutBySide_143 rfl rfl (by decide) ?_
                  refine zr_goto F 189 zd_XSight_cutBySide_146 (by decide) ?_
                  refine zr_lload F zd_XSight_cutBySide_189 rfl ?_
                  refine zr_lstore F zd_XSight_cutBySide_191 (by decide) ?_
                  refine zr_iinc (v := (v7 + 1)) F zd_XSight_cutBySide_193 rfl rfl (by decide) ?_
                  refine zr_loc (L' := [(0, .ref (b + v0)), (1, .int v1), (2, .long v2), (4, .long v2), (6, .int ((v6 + 1) + 1)), (7, .int (v7 + 1))]) ⟨rfl, rfl, rfl, rfl, rfl, rfl, trivial⟩ ?_
                  refine zr_goto F 16 zd_XSight_cutBySide_196 (by decide) ?_
                  refine zr_loc (L' := [(0, .ref (b + v0)), (1, .int v1), (2, .long v2), (4, .long v2), (6, .int ((v6 + 1) + 1)), (7, .int (v7 + 1))]) ⟨rfl, rfl, rfl, rfl, rfl, rfl, trivial⟩ ?_
                  exact ih _ _ _ _ _ _ _ _ h hx0
theorem zf_R_9_14 (b : Nat) (m : zMem) (k : Nat) (v : Option Nat) : (zfl b 9 m k).set 14 (zrf b v) = zfl b 9 (mR m k 14 v) k := by simp [zfl, mR, upd, vp_updL]
theorem zf_R_9_2 (b : Nat) (m : zMem) (k : Nat) (v : Option Nat) : (zfl b 9 m k).set 2 (zrf b v) = zfl b 9 (mR m k 2 v) k := by simp [zfl, mR, upd, vp_updL]
theorem zf_I_9_3 (b : Nat) (m : zMem) (k : Nat) (v : Int32) : (zfl b 9 m k).set 3 (.int v) = zfl b 9 (mI m k 3 v) k := by simp [zfl, mI, upd, vp_updL]
def F_XSight_cutBySide (sh : zSh) (mm : zMem) (o : Nat) (x0_ : Int32) : Option zMem := zoS (sh o) 9 (fun le2 => Option.bind (F_XSight_sideOf sh mm o x0_ 0) (fun p3 => Option.bind (L_XSight_cutBySide_16 sh zfuel o x0_ (p3.1) (p3.1) 0 0 (p3.2)) (fun q151 => zoS (sh (q151.1)) 9 (fun le153 => Option.bind ((q151.2.2.2.2.2.2).2.2 (q151.1) 14) (fun a154 => zoS (sh (q151.1)) 9 (fun le156 => Option.bind ((q151.2.2.2.2.2.2).2.2 (q151.1) 2) (fun a157 => zoS (sh (q151.1)) 9 (fun le159 => zoL (mR (q151.2.2.2.2.2.2) (q151.1) 14 (some a157)) (fun mm160 => zoS (sh (q151.1)) 9 (fun le162 => zoL (mR mm160 (q151.1) 2 (some a154)) (fun mm163 => zoS (sh (q151.1)) 9 (fun le165 => zoL (mI mm163 (q151.1) 3 (q151.2.2.2.2.1)) (fun mm166 => some mm166)))))))))))))
set_option maxHeartbeats 4000000 in
set_option maxRecDepth 100000 in
theorem k_XSight_cutBySide (l : Launch) (D : va_G) (tA : Nat → ClassId) (b : Nat) (sh : zSh) (n : Nat) {mm : zMem} {o : Nat} {x0_ : Int32} {r : zMem} (h : F_XSight_cutBySide sh mm o x0_ = some r) : zM l D tA b zy_XSight_cutBySide zb_XSight_cutBySide 11 none 2 60 0 0 [.ref (b + o), .int x0_] (zW tA b sh mm) n (zE none (zW tA b sh r) n) := by
  unfold F_XSight_cutBySide at h
  refine zM_of (own := "OrreryBox$Sight") (plainFor_of_name (by decide)) rfl (Nat.le_of_ble_eq_true rfl) (fun p e s m below meth c F hr hin hH => ?_)
  refine zr_aload_n F zd_XSight_cutBySide_0 rfl ?_
  refine zr_iload_n F zd_XSight_cutBySide_1 rfl ?_
  refine zr_iconstv (v := 0) F zd_XSight_cutBySide_2 (by decide) ?_
  obtain ⟨le2, hs1, h⟩ := zoS_s h
  obtain ⟨p3, ep3, h⟩ := zoB_s h
  refine zr_callV1 F (k_XSight_sideOf l D tA b sh _ ep3) zd_XSight_cutBySide_3 (zW_o hs1 (by decide)) rfl zs_XSight_212 rfl zq_XSight_sideOf rfl rfl ⟨(Nat.le_of_ble_eq_true rfl), (Nat.le_of_ble_eq_true rfl)⟩ (Nat.le_of_ble_eq_true rfl) ⟨(Nat.le_of_ble_eq_true rfl), (Nat.le_of_ble_eq_true rfl)⟩ ?_
  refine zr_lstore_n F zd_XSight_cutBySide_6 (by decide) ?_
  refine zr_lload_n F zd_XSight_cutBySide_7 rfl ?_
  refine zr_lstore F zd_XSight_cutBySide_8 (by decide) ?_
  refine zr_pcn 10 rfl ?_
  refine zr_iconstv (v := 0) F zd_XSight_cutBySide_10 (by decide) ?_
  refine zr_istore F zd_XSight_cutBySide_11 (by decide) ?_
  refine zr_loc (L' := [(0, .ref (b + o)), (1, .int x0_), (2, .long (p3.1)), (4, .long (p3.1)), (6, .int 0)]) ⟨rfl, rfl, rfl, rfl, rfl, trivial⟩ ?_
  refine zr_iconstv (v := 0) F zd_XSight_cutBySide_13 (by decide) ?_
  refine zr_istore F zd_XSight_cutBySide_14 (by decide) ?_
  obtain ⟨q151, eq151, h⟩ := zoB_s h
  refine zr_loc (L' := [(0, .ref (b + o)), (1, .int x0_), (2, .long (p3.1)), (4, .long (p3.1)), (6, .int 0), (7, .int 0)]) ⟨rfl, rfl, rfl, rfl, rfl, rfl, trivial⟩ ?_
  refine lp_XSight_cutBySide_16 F _ _ _ _ _ _ _ _ _ eq151 ?_
  ·
    refine zr_aload_n F zd_XSight_cutBySide_199 rfl ?_
    obtain ⟨le153, hs152, h⟩ := zoS_s h
    obtain ⟨a154, ea154, h⟩ := zoB_s h
    refine zr_get F 9 14 zd_XSight_cutBySide_200 (zW_o hs152 (by decide)) rfl (by decide) zw_387 rfl (by rfl) ?_
    refine zr_tor ea154 ?_
    refine zr_pcn 203 rfl ?_
    refine zr_astore F zd_XSight_cutBySide_203 (by decide) ?_
    refine zr_aload_n F zd_XSight_cutBySide_205 rfl ?_
    refine zr_aload_n F zd_XSight_cutBySide_206 rfl ?_
    obtain ⟨le156, hs155, h⟩ := zoS_s h
    obtain ⟨a157, ea157, h⟩ := zoB_s h
    refine zr_get F 9 2 zd_XSight_cutBySide_207 (zW_o hs155 (by decide)) rfl (by decide) zw_375 rfl (by rfl) ?_
    refine zr_tor ea157 ?_
    obtain ⟨le159, hs158, h⟩ := zoS_s h
    refine zr_put F 9 14 zd_XSight_cutBySide_210 (zW_o hs158 (by decide)) rfl (by decide) zw_387 rfl rfl rfl rfl (by exact (Nat.le_of_ble_eq_true rfl)) ?_
    obtain ⟨mm160, emm160, h⟩ := zoL_s h
    refine zr_norm (zW tA b sh mm160) _ (by rw [emm160]; exact zW_pR (v := (some a157)) hs158 (by decide) (zf_R_9_14 b _ _ _)) rfl ?_
    refine zr_aload_n F zd_XSight_cutBySide_213 rfl ?_
    refine zr_aload F zd_XSight_cutBySide_214 rfl ?_
    obtain ⟨le162, hs161, h⟩ := zoS_s h
    refine zr_put F 9 2 zd_XSight_cutBySide_216 (zW_o hs161 (by decide)) rfl (by decide) zw_375 rfl rfl rfl rfl (by exact (Nat.le_of_ble_eq_true rfl)) ?_
    obtain ⟨mm163, emm163, h⟩ := zoL_s h
    refine zr_norm (zW tA b sh mm163) _ (by rw [emm163]; exact zW_pR (v := (some a154)) hs161 (by decide) (zf_R_9_2 b _ _ _)) rfl ?_
    refine zr_pcn 219 rfl ?_
    refine zr_aload_n F zd_XSight_cutBySide_219 rfl ?_
    refine zr_iload F zd_XSight_cutBySide_220 rfl ?_
    obtain ⟨le165, hs164, h⟩ := zoS_s h
    refine zr_put F 9 3 zd_XSight_cutBySide_222 (zW_o hs164 (by decide)) rfl (by decide) zw_376 rfl rfl rfl rfl (by exact (Nat.le_of_ble_eq_true rfl)) ?_
    obtain ⟨mm166, emm166, h⟩ := zoL_s h
    refine zr_norm (zW tA b sh mm166) _ (by rw [emm166]; exact zW_pI (v := (q151.2.2.2.2.1)) hs164 (by decide) (zf_I_9_3 b _ _ _)) rfl ?_
    obtain rfl := Option.some.inj h
    exact zr_vret F hr zd_XSight_cutBySide_225 (Nat.le_of_ble_eq_true rfl) (Nat.le_of_ble_eq_true rfl) ⟨rfl, rfl, rfl⟩
