abbrev zb_MReader_numbers : ByteArray := prog_17_method_13_code
def zy_MReader_numbers : MethodName := ⟨"OrreryBoxModel$Reader", "numbers", "(Ljava/lang/String;[IIIIIII)V"⟩
theorem zc_MReader_numbers : Cond.code zy_MReader_numbers zb_MReader_numbers 10 none ∈ gw := gw_t 1844 (by decide +kernel) rfl
theorem zq_MReader_numbers : zy_MReader_numbers.cls ≠ "java/lang/invoke/MethodHandle" ∧ zy_MReader_numbers.cls ≠ "java/lang/invoke/VarHandle" ∧ (parseMethodDescriptor zy_MReader_numbers.desc).map (fun d => d.parameters.length) = some 8 := by decide +kernel
theorem zd_MReader_numbers_0 : decode zb_MReader_numbers 0 = .ok (.aload_n 0, 1) := by decide +kernel
theorem zd_MReader_numbers_1 : decode zb_MReader_numbers 1 = .ok (.aload_n 1, 1) := by decide +kernel
theorem zd_MReader_numbers_2 : decode zb_MReader_numbers 2 = .ok (.invokevirtual 83, 3) := by decide +kernel
theorem zd_MReader_numbers_5 : decode zb_MReader_numbers 5 = .ok (.aload_n 0, 1) := by decide +kernel
theorem zd_MReader_numbers_6 : decode zb_MReader_numbers 6 = .ok (.bipush 91, 2) := by decide +kernel
theorem zd_MReader_numbers_8 : decode zb_MReader_numbers 8 = .ok (.invokevirtual 55, 3) := by decide +kernel
theorem zd_MReader_numbers_11 : decode zb_MReader_numbers 11 = .ok (.aload_n 0, 1) := by decide +kernel
theorem zd_MReader_numbers_12 : decode zb_MReader_numbers 12 = .ok (.iconst 0, 1) := by decide +kernel
theorem zd_MReader_numbers_13 : decode zb_MReader_numbers 13 = .ok (.putfield 103, 3) := by decide +kernel
theorem zd_MReader_numbers_16 : decode zb_MReader_numbers 16 = .ok (.aload_n 0, 1) := by decide +kernel
theorem zd_MReader_numbers_17 : decode zb_MReader_numbers 17 = .ok (.getfield 17, 3) := by decide +kernel
theorem zd_MReader_numbers_20 : decode zb_MReader_numbers 20 = .ok (.ifCond .ne 16, 3) := by decide +kernel
theorem zd_MReader_numbers_23 : decode zb_MReader_numbers 23 = .ok (.aload_n 0, 1) := by decide +kernel
theorem zd_MReader_numbers_24 : decode zb_MReader_numbers 24 = .ok (.invokevirtual 34, 3) := by decide +kernel
theorem zd_MReader_numbers_27 : decode zb_MReader_numbers 27 = .ok (.bipush 93, 2) := by decide +kernel
theorem zd_MReader_numbers_29 : decode zb_MReader_numbers 29 = .ok (.if_icmp .eq 7, 3) := by decide +kernel
theorem zd_MReader_numbers_32 : decode zb_MReader_numbers 32 = .ok (.iconst 1, 1) := by decide +kernel
theorem zd_MReader_numbers_33 : decode zb_MReader_numbers 33 = .ok (.goto 4, 3) := by decide +kernel
theorem zd_MReader_numbers_36 : decode zb_MReader_numbers 36 = .ok (.iconst 0, 1) := by decide +kernel
theorem zd_MReader_numbers_37 : decode zb_MReader_numbers 37 = .ok (.istore 9, 2) := by decide +kernel
theorem zd_MReader_numbers_39 : decode zb_MReader_numbers 39 = .ok (.iload 9, 2) := by decide +kernel
theorem zd_MReader_numbers_41 : decode zb_MReader_numbers 41 = .ok (.ifCond .eq 168, 3) := by decide +kernel
theorem zd_MReader_numbers_44 : decode zb_MReader_numbers 44 = .ok (.aload_n 0, 1) := by decide +kernel
theorem zd_MReader_numbers_45 : decode zb_MReader_numbers 45 = .ok (.getfield 17, 3) := by decide +kernel
theorem zd_MReader_numbers_48 : decode zb_MReader_numbers 48 = .ok (.ifCond .ne 161, 3) := by decide +kernel
theorem zd_MReader_numbers_51 : decode zb_MReader_numbers 51 = .ok (.aload_n 0, 1) := by decide +kernel
theorem zd_MReader_numbers_52 : decode zb_MReader_numbers 52 = .ok (.invokevirtual 87, 3) := by decide +kernel
theorem zd_MReader_numbers_55 : decode zb_MReader_numbers 55 = .ok (.ifCond .ne 15, 3) := by decide +kernel
theorem zd_MReader_numbers_58 : decode zb_MReader_numbers 58 = .ok (.aload_n 0, 1) := by decide +kernel
theorem zd_MReader_numbers_59 : decode zb_MReader_numbers 59 = .ok (.iconst 1, 1) := by decide +kernel
theorem zd_MReader_numbers_60 : decode zb_MReader_numbers 60 = .ok (.aload_n 0, 1) := by decide +kernel
theorem zd_MReader_numbers_61 : decode zb_MReader_numbers 61 = .ok (.getfield 27, 3) := by decide +kernel
theorem zd_MReader_numbers_64 : decode zb_MReader_numbers 64 = .ok (.invokevirtual 38, 3) := by decide +kernel
theorem zd_MReader_numbers_67 : decode zb_MReader_numbers 67 = .ok (.goto 101, 3) := by decide +kernel
theorem zd_MReader_numbers_70 : decode zb_MReader_numbers 70 = .ok (.aload_n 0, 1) := by decide +kernel
theorem zd_MReader_numbers_71 : decode zb_MReader_numbers 71 = .ok (.invokevirtual 91, 3) := by decide +kernel
theorem zd_MReader_numbers_74 : decode zb_MReader_numbers 74 = .ok (.aload_n 0, 1) := by decide +kernel
theorem zd_MReader_numbers_75 : decode zb_MReader_numbers 75 = .ok (.getfield 103, 3) := by decide +kernel
theorem zd_MReader_numbers_78 : decode zb_MReader_numbers 78 = .ok (.iload 6, 2) := by decide +kernel
theorem zd_MReader_numbers_80 : decode zb_MReader_numbers 80 = .ok (.if_icmp .ne 15, 3) := by decide +kernel
theorem zd_MReader_numbers_83 : decode zb_MReader_numbers 83 = .ok (.aload_n 0, 1) := by decide +kernel
theorem zd_MReader_numbers_84 : decode zb_MReader_numbers 84 = .ok (.iconst 3, 1) := by decide +kernel
theorem zd_MReader_numbers_85 : decode zb_MReader_numbers 85 = .ok (.aload_n 0, 1) := by decide +kernel
theorem zd_MReader_numbers_86 : decode zb_MReader_numbers 86 = .ok (.getfield 63, 3) := by decide +kernel
theorem zd_MReader_numbers_89 : decode zb_MReader_numbers 89 = .ok (.invokevirtual 38, 3) := by decide +kernel
theorem zd_MReader_numbers_92 : decode zb_MReader_numbers 92 = .ok (.goto 76, 3) := by decide +kernel
theorem zd_MReader_numbers_95 : decode zb_MReader_numbers 95 = .ok (.aload_n 0, 1) := by decide +kernel
theorem zd_MReader_numbers_96 : decode zb_MReader_numbers 96 = .ok (.getfield 66, 3) := by decide +kernel
theorem zd_MReader_numbers_99 : decode zb_MReader_numbers 99 = .ok (.ifCond .eq 35, 3) := by decide +kernel
theorem zd_MReader_numbers_102 : decode zb_MReader_numbers 102 = .ok (.aload_n 0, 1) := by decide +kernel
theorem zd_MReader_numbers_103 : decode zb_MReader_numbers 103 = .ok (.iload 4, 2) := by decide +kernel
theorem zd_MReader_numbers_105 : decode zb_MReader_numbers 105 = .ok (.aload_n 0, 1) := by decide +kernel
theorem zd_MReader_numbers_106 : decode zb_MReader_numbers 106 = .ok (.getfield 103, 3) := by decide +kernel
theorem zd_MReader_numbers_109 : decode zb_MReader_numbers 109 = .ok (.ifCond .ne 7, 3) := by decide +kernel
theorem zd_MReader_numbers_112 : decode zb_MReader_numbers 112 = .ok (.iconst (-1), 1) := by decide +kernel
theorem zd_MReader_numbers_113 : decode zb_MReader_numbers 113 = .ok (.goto 13, 3) := by decide +kernel
theorem zd_MReader_numbers_116 : decode zb_MReader_numbers 116 = .ok (.aload_n 2, 1) := by decide +kernel
theorem zd_MReader_numbers_117 : decode zb_MReader_numbers 117 = .ok (.iload_n 3, 1) := by decide +kernel
theorem zd_MReader_numbers_118 : decode zb_MReader_numbers 118 = .ok (.aload_n 0, 1) := by decide +kernel
theorem zd_MReader_numbers_119 : decode zb_MReader_numbers 119 = .ok (.getfield 103, 3) := by decide +kernel
theorem zd_MReader_numbers_122 : decode zb_MReader_numbers 122 = .ok (.iadd, 1) := by decide +kernel
theorem zd_MReader_numbers_123 : decode zb_MReader_numbers 123 = .ok (.iconst 1, 1) := by decide +kernel
theorem zd_MReader_numbers_124 : decode zb_MReader_numbers 124 = .ok (.isub, 1) := by decide +kernel
theorem zd_MReader_numbers_125 : decode zb_MReader_numbers 125 = .ok (.iaload, 1) := by decide +kernel
theorem zd_MReader_numbers_126 : decode zb_MReader_numbers 126 = .ok (.iload 8, 2) := by decide +kernel
theorem zd_MReader_numbers_128 : decode zb_MReader_numbers 128 = .ok (.invokevirtual 106, 3) := by decide +kernel
theorem zd_MReader_numbers_131 : decode zb_MReader_numbers 131 = .ok (.ifCond .ne 15, 3) := by decide +kernel
theorem zd_MReader_numbers_134 : decode zb_MReader_numbers 134 = .ok (.aload_n 0, 1) := by decide +kernel
theorem zd_MReader_numbers_135 : decode zb_MReader_numbers 135 = .ok (.iconst 2, 1) := by decide +kernel
theorem zd_MReader_numbers_136 : decode zb_MReader_numbers 136 = .ok (.aload_n 0, 1) := by decide +kernel
theorem zd_MReader_numbers_137 : decode zb_MReader_numbers 137 = .ok (.getfield 63, 3) := by decide +kernel
theorem zd_MReader_numbers_140 : decode zb_MReader_numbers 140 = .ok (.invokevirtual 38, 3) := by decide +kernel
theorem zd_MReader_numbers_143 : decode zb_MReader_numbers 143 = .ok (.goto 25, 3) := by decide +kernel
theorem zd_MReader_numbers_146 : decode zb_MReader_numbers 146 = .ok (.aload_n 2, 1) := by decide +kernel
theorem zd_MReader_numbers_147 : decode zb_MReader_numbers 147 = .ok (.iload_n 3, 1) := by decide +kernel
theorem zd_MReader_numbers_148 : decode zb_MReader_numbers 148 = .ok (.aload_n 0, 1) := by decide +kernel
theorem zd_MReader_numbers_149 : decode zb_MReader_numbers 149 = .ok (.getfield 103, 3) := by decide +kernel
theorem zd_MReader_numbers_152 : decode zb_MReader_numbers 152 = .ok (.iadd, 1) := by decide +kernel
theorem zd_MReader_numbers_153 : decode zb_MReader_numbers 153 = .ok (.aload_n 0, 1) := by decide +kernel
theorem zd_MReader_numbers_154 : decode zb_MReader_numbers 154 = .ok (.getfield 80, 3) := by decide +kernel
theorem zd_MReader_numbers_157 : decode zb_MReader_numbers 157 = .ok (.iastore, 1) := by decide +kernel
theorem zd_MReader_numbers_158 : decode zb_MReader_numbers 158 = .ok (.aload_n 0, 1) := by decide +kernel
theorem zd_MReader_numbers_159 : decode zb_MReader_numbers 159 = .ok (.dup, 1) := by decide +kernel
theorem zd_MReader_numbers_160 : decode zb_MReader_numbers 160 = .ok (.getfield 103, 3) := by decide +kernel
theorem zd_MReader_numbers_163 : decode zb_MReader_numbers 163 = .ok (.iconst 1, 1) := by decide +kernel
theorem zd_MReader_numbers_164 : decode zb_MReader_numbers 164 = .ok (.iadd, 1) := by decide +kernel
theorem zd_MReader_numbers_165 : decode zb_MReader_numbers 165 = .ok (.putfield 103, 3) := by decide +kernel
theorem zd_MReader_numbers_168 : decode zb_MReader_numbers 168 = .ok (.aload_n 0, 1) := by decide +kernel
theorem zd_MReader_numbers_169 : decode zb_MReader_numbers 169 = .ok (.getfield 17, 3) := by decide +kernel
theorem zd_MReader_numbers_172 : decode zb_MReader_numbers 172 = .ok (.ifCond .ne 16, 3) := by decide +kernel
theorem zd_MReader_numbers_175 : decode zb_MReader_numbers 175 = .ok (.aload_n 0, 1) := by decide +kernel
theorem zd_MReader_numbers_176 : decode zb_MReader_numbers 176 = .ok (.invokevirtual 34, 3) := by decide +kernel
theorem zd_MReader_numbers_179 : decode zb_MReader_numbers 179 = .ok (.bipush 44, 2) := by decide +kernel
theorem zd_MReader_numbers_181 : decode zb_MReader_numbers 181 = .ok (.if_icmp .ne 7, 3) := by decide +kernel
theorem zd_MReader_numbers_184 : decode zb_MReader_numbers 184 = .ok (.iconst 1, 1) := by decide +kernel
theorem zd_MReader_numbers_185 : decode zb_MReader_numbers 185 = .ok (.goto 4, 3) := by decide +kernel
theorem zd_MReader_numbers_188 : decode zb_MReader_numbers 188 = .ok (.iconst 0, 1) := by decide +kernel
theorem zd_MReader_numbers_189 : decode zb_MReader_numbers 189 = .ok (.istore 9, 2) := by decide +kernel
theorem zd_MReader_numbers_191 : decode zb_MReader_numbers 191 = .ok (.iload 9, 2) := by decide +kernel
theorem zd_MReader_numbers_193 : decode zb_MReader_numbers 193 = .ok (.ifCond .eq (-154), 3) := by decide +kernel
theorem zd_MReader_numbers_196 : decode zb_MReader_numbers 196 = .ok (.aload_n 0, 1) := by decide +kernel
theorem zd_MReader_numbers_197 : decode zb_MReader_numbers 197 = .ok (.dup, 1) := by decide +kernel
theorem zd_MReader_numbers_198 : decode zb_MReader_numbers 198 = .ok (.getfield 27, 3) := by decide +kernel
theorem zd_MReader_numbers_201 : decode zb_MReader_numbers 201 = .ok (.iconst 1, 1) := by decide +kernel
theorem zd_MReader_numbers_202 : decode zb_MReader_numbers 202 = .ok (.iadd, 1) := by decide +kernel
theorem zd_MReader_numbers_203 : decode zb_MReader_numbers 203 = .ok (.putfield 27, 3) := by decide +kernel
theorem zd_MReader_numbers_206 : decode zb_MReader_numbers 206 = .ok (.goto (-167), 3) := by decide +kernel
theorem zd_MReader_numbers_209 : decode zb_MReader_numbers 209 = .ok (.aload_n 0, 1) := by decide +kernel
theorem zd_MReader_numbers_210 : decode zb_MReader_numbers 210 = .ok (.getfield 17, 3) := by decide +kernel
theorem zd_MReader_numbers_213 : decode zb_MReader_numbers 213 = .ok (.ifCond .ne 40, 3) := by decide +kernel
theorem zd_MReader_numbers_216 : decode zb_MReader_numbers 216 = .ok (.aload_n 0, 1) := by decide +kernel
theorem zd_MReader_numbers_217 : decode zb_MReader_numbers 217 = .ok (.invokevirtual 34, 3) := by decide +kernel
theorem zd_MReader_numbers_220 : decode zb_MReader_numbers 220 = .ok (.bipush 93, 2) := by decide +kernel
theorem zd_MReader_numbers_222 : decode zb_MReader_numbers 222 = .ok (.if_icmp .ne 31, 3) := by decide +kernel
theorem zd_MReader_numbers_225 : decode zb_MReader_numbers 225 = .ok (.aload_n 0, 1) := by decide +kernel
theorem zd_MReader_numbers_226 : decode zb_MReader_numbers 226 = .ok (.getfield 103, 3) := by decide +kernel
theorem zd_MReader_numbers_229 : decode zb_MReader_numbers 229 = .ok (.iload 5, 2) := by decide +kernel
theorem zd_MReader_numbers_231 : decode zb_MReader_numbers 231 = .ok (.if_icmp .lt 13, 3) := by decide +kernel
theorem zd_MReader_numbers_234 : decode zb_MReader_numbers 234 = .ok (.aload_n 0, 1) := by decide +kernel
theorem zd_MReader_numbers_235 : decode zb_MReader_numbers 235 = .ok (.getfield 103, 3) := by decide +kernel
theorem zd_MReader_numbers_238 : decode zb_MReader_numbers 238 = .ok (.iload 7, 2) := by decide +kernel
theorem zd_MReader_numbers_240 : decode zb_MReader_numbers 240 = .ok (.irem, 1) := by decide +kernel
theorem zd_MReader_numbers_241 : decode zb_MReader_numbers 241 = .ok (.ifCond .eq 12, 3) := by decide +kernel
theorem zd_MReader_numbers_244 : decode zb_MReader_numbers 244 = .ok (.aload_n 0, 1) := by decide +kernel
theorem zd_MReader_numbers_245 : decode zb_MReader_numbers 245 = .ok (.iconst 3, 1) := by decide +kernel
theorem zd_MReader_numbers_246 : decode zb_MReader_numbers 246 = .ok (.aload_n 0, 1) := by decide +kernel
theorem zd_MReader_numbers_247 : decode zb_MReader_numbers 247 = .ok (.getfield 27, 3) := by decide +kernel
theorem zd_MReader_numbers_250 : decode zb_MReader_numbers 250 = .ok (.invokevirtual 38, 3) := by decide +kernel
theorem zd_MReader_numbers_253 : decode zb_MReader_numbers 253 = .ok (.aload_n 0, 1) := by decide +kernel
theorem zd_MReader_numbers_254 : decode zb_MReader_numbers 254 = .ok (.bipush 93, 2) := by decide +kernel
theorem zd_MReader_numbers_256 : decode zb_MReader_numbers 256 = .ok (.invokevirtual 55, 3) := by decide +kernel
theorem zd_MReader_numbers_259 : decode zb_MReader_numbers 259 = .ok (.return_, 1) := by decide +kernel
theorem zw_1515 : (Jvm.Cond.fieldLink "OrreryBoxModel$Reader" (103 : Nat) "OrreryBoxModel$Reader" "listed" "I") ∈ gw := gw_t 1515 (by decide +kernel) rfl
theorem zf_I_14_9 (b : Nat) (m : zMem) (k : Nat) (v : Int32) : (zfl b 14 m k).set 9 (.int v) = zfl b 14 (mI m k 9 v) k := by simp [zfl, mI, upd, vp_updL]
theorem zw_1845 : (Jvm.Cond.methodLink "OrreryBoxModel$Reader" (106 : Nat) ({ cls := "OrreryBoxModel$Reader", name := "fits", desc := "(III)Z" } : Jvm.MethodName)) ∈ gw := gw_t 1845 (by decide +kernel) rfl
theorem zw_1847 : (Jvm.Cond.instanceMethod ({ cls := "OrreryBoxModel$Reader", name := "fits", desc := "(III)Z" } : Jvm.MethodName)) ∈ gw := gw_t 1847 (by decide +kernel) rfl
theorem zv_82 : (Jvm.Cond.selects "OrreryBoxModel$Reader" (⟨"OrreryBoxModel$Reader", "fits", "(III)Z"⟩ : MethodName) ⟨"OrreryBoxModel$Reader", "fits", "(III)Z"⟩) ∈ gw := gw_s 82 (by decide +kernel) rfl
theorem zs_MReader_106 : zwV "OrreryBoxModel$Reader" 106 "OrreryBoxModel$Reader" zy_MReader_fits zb_MReader_fits 4 (some .boolean) := ⟨zw_1845, zw_1847, zv_82, zw_15, zc_MReader_fits⟩
def L_MReader_numbers_39 (sh : zSh) (fuel : Nat) (v0 : Nat) (v2 : Nat) (v3 : Int32) (v4 : Int32) (v5 : Int32) (v6 : Int32) (v7 : Int32) (v8 : Int32) (v9 : Int32) (mm : zMem) : Option (Nat × Nat × Int32 × Int32 × Int32 × Int32 × Int32 × Int32 × Int32 × zMem) := match fuel with
  | 0 => none
  | fu + 1 => (if v9 = 0 then some (v0, v2, v3, v4, v5, v6, v7, v8, v9, mm) else zoS (sh v0) 14 (fun le15 => (if (mm.1 v0 4) = 0 then zoS (sh v0) 14 (fun le18 => Option.bind (F_MReader_numberNext sh mm v0) (fun p19 => (if p19.1 = 0 then zoS (sh v0) 14 (fun le179 => zoS (sh v0) 14 (fun le181 => Option.bind (F_MReader_fail sh (p19.2) v0 1 ((p19.2).1 v0 3)) (fun p182 => zoS (sh v0) 14 (fun le184 => (if (p182.1 v0 4) = 0 then zoS (sh v0) 14 (fun le187 => Option.bind (F_MReader_next sh p182 v0) (fun p188 => (if p188.1 = 44 then zoS (sh v0) 14 (fun le191 => zoL (((p188.2).1 v0 3) + 1) (fun x192 => zoS (sh v0) 14 (fun le194 => zoL (mI (p188.2) v0 3 x192) (fun mm195 => L_MReader_numbers_39 sh fu v0 v2 v3 v4 v5 v6 v7 v8 1 mm195)))) else L_MReader_numbers_39 sh fu v0 v2 v3 v4 v5 v6 v7 v8 0 (p188.2)))) else L_MReader_numbers_39 sh fu v0 v2 v3 v4 v5 v6 v7 v8 0 p182))))) else zoS (sh v0) 14 (fun le22 => Option.bind (F_MReader_takeNumber sh (p19.2) v0) (fun p23 => zoS (sh v0) 14 (fun le25 => (if (p23.1 v0 9) = v6 then zoS (sh v0) 14 (fun le161 => zoS (sh v0) 14 (fun le163 => Option.bind (F_MReader_fail sh p23 v0 3 (p23.1 v0 6)) (fun p164 => zoS (sh v0) 14 (fun le166 => (if (p164.1 v0 4) = 0 then zoS (sh v0) 14 (fun le169 => Option.bind (F_MReader_next sh p164 v0) (fun p170 => (if p170.1 = 44 then zoS (sh v0) 14 (fun le173 => zoL (((p170.2).1 v0 3) + 1) (fun x174 => zoS (sh v0) 14 (fun le176 => zoL (mI (p170.2) v0 3 x174) (fun mm177 => L_MReader_numbers_39 sh fu v0 v2 v3 v4 v5 v6 v7 v8 1 mm177)))) else L_MReader_numbers_39 sh fu v0 v2 v3 v4 v5 v6 v7 v8 0 (p170.2)))) else L_MReader_numbers_39 sh fu v0 v2 v3 v4 v5 v6 v7 v8 0 p164))))) else zoS (sh v0) 14 (fun le28 => (if (p23.1 v0 8) = 0 then zoS (sh v0) 14 (fun le31 => zoS (sh v0) 14 (fun le33 => Option.bind (F_MReader_fail sh p23 v0 2 (p23.1 v0 6)) (fun p34 => zoS (sh v0) 14 (fun le36 => (if (p34.1 v0 4) = 0 then zoS (sh v0) 14 (fun le39 => Option.bind (F_MReader_next sh p34 v0) (fun p40 => (if p40.1 = 44 then zoS (sh v0) 14 (fun le43 => zoL (((p40.2).1 v0 3) + 1) (fun x44 => zoS (sh v0) 14 (fun le46 => zoL (mI (p40.2) v0 3 x44) (fun mm47 => L_MReader_numbers_39 sh fu v0 v2 v3 v4 v5 v6 v7 v8 1 mm47)))) else L_MReader_numbers_39 sh fu v0 v2 v3 v4 v5 v6 v7 v8 0 (p40.2)))) else L_MReader_numbers_39 sh fu v0 v2 v3 v4 v5 v6 v7 v8 0 p34))))) else zoS (sh v0) 14 (fun le49 => (if (p23.1 v0 9) = 0 then zoS (sh v0) 14 (fun le110 => Option.bind (F_MReader_fits sh p23 v0 v4 (-1) v8) (fun p111 => (if p111.1 = 0 then zoS (sh v0) 14 (fun le143 => zoS (sh v0) 14 (fun le145 => Option.bind (F_MReader_fail sh (p111.2) v0 2 ((p111.2).1 v0 6)) (fun p146 => zoS (sh v0) 14 (fun le148 => (if (p146.1 v0 4) = 0 then zoS (sh v0) 14 (fun le151 => Option.bind (F_MReader_next sh p146 v0) (fun p152 => (if p152.1 = 44 then zoS (sh v0) 14 (fun le155 => zoL (((p152.2).1 v0 3) + 1) (fun x156 => zoS (sh v0) 14 (fun le158 => zoL (mI (p152.2) v0 3 x156) (fun mm159 => L_MReader_numbers_39 sh fu v0 v2 v3 v4 v5 v6 v7 v8 1 mm159)))) else L_MReader_numbers_39 sh fu v0 v2 v3 v4 v5 v6 v7 v8 0 (p152.2)))) else L_MReader_numbers_39 sh fu v0 v2 v3 v4 v5 v6 v7 v8 0 p146))))) else zoS (sh v0) 14 (fun le114 => zoS (sh v0) 14 (fun le116 => zoL ((p111.2).1 v0 7) (fun x117 => zoL (v3 + ((p111.2).1 v0 9)) (fun i118 => zoS (sh v2) 100 (fun le120 => if (i118 : Int32) < 0 ∨ le120 ≤ (i118 : Int32).toNatClampNeg then none else zoL (mI (p111.2) v2 (i118 : Int32).toNatClampNeg x117) (fun mm122 => zoS (sh v0) 14 (fun le124 => zoL ((mm122.1 v0 9) + 1) (fun x125 => zoS (sh v0) 14 (fun le127 => zoL (mI mm122 v0 9 x125) (fun mm128 => zoS (sh v0) 14 (fun le130 => (if (mm128.1 v0 4) = 0 then zoS (sh v0) 14 (fun le133 => Option.bind (F_MReader_next sh mm128 v0) (fun p134 => (if p134.1 = 44 then zoS (sh v0) 14 (fun le137 => zoL (((p134.2).1 v0 3) + 1) (fun x138 => zoS (sh v0) 14 (fun le140 => zoL (mI (p134.2) v0 3 x138) (fun mm141 => L_MReader_numbers_39 sh fu v0 v2 v3 v4 v5 v6 v7 v8 1 mm141)))) else L_MReader_numbers_39 sh fu v0 v2 v3 v4 v5 v6 v7 v8 0 (p134.2)))) else L_MReader_numbers_39 sh fu v0 v2 v3 v4 v5 v6 v7 v8 0 mm128))))))))))))))) else zoS (sh v0) 14 (fun le52 => zoL ((v3 + (p23.1 v0 9)) - 1) (fun i53 => zoS (sh v2) 100 (fun le55 => if (i53 : Int32) < 0 ∨ le55 ≤ (i53 : Int32).toNatClampNeg then none else zoS (sh v0) 14 (fun le58 => zoL (p23.1 v2 (i53 : Int32).toNatClampNeg) (fun x59 => Option.bind (F_MReader_fits sh p23 v0 v4 x59 v8) (fun p60 => (if p60.1 = 0 then zoS (sh v0) 14 (fun le92 => zoS (sh v0) 14 (fun le94 => Option.bind (F_MReader_fail sh (p60.2) v0 2 ((p60.2).1 v0 6)) (fun p95 => zoS (sh v0) 14 (fun le97 => (if (p95.1 v0 4) = 0 then zoS (sh v0) 14 (fun le100 => Option.bind (F_MReader_next sh p95 v0) (fun p101 => (if p101.1 = 44 then zoS (sh v0) 14 (fun le104 => zoL (((p101.2).1 v0 3) + 1) (fun x105 => zoS (sh v0) 14 (fun le107 => zoL (mI (p101.2) v0 3 x105) (fun mm108 => L_MReader_numbers_39 sh fu v0 v2 v3 v4 v5 v6 v7 v8 1 mm108)))) else L_MReader_numbers_39 sh fu v0 v2 v3 v4 v5 v6 v7 v8 0 (p101.2)))) else L_MReader_numbers_39 sh fu v0 v2 v3 v4 v5 v6 v7 v8 0 p95))))) else zoS (sh v0) 14 (fun le63 => zoS (sh v0) 14 (fun le65 => zoL ((p60.2).1 v0 7) (fun x66 => zoL (v3 + ((p60.2).1 v0 9)) (fun i67 => zoS (sh v2) 100 (fun le69 => if (i67 : Int32) < 0 ∨ le69 ≤ (i67 : Int32).toNatClampNeg then none else zoL (mI (p60.2) v2 (i67 : Int32).toNatClampNeg x66) (fun mm71 => zoS (sh v0) 14 (fun le73 => zoL ((mm71.1 v0 9) + 1) (fun x74 => zoS (sh v0) 14 (fun le76 => zoL (mI mm71 v0 9 x74) (fun mm77 => zoS (sh v0) 14 (fun le79 => (if (mm77.1 v0 4) = 0 then zoS (sh v0) 14 (fun le82 => Option.bind (F_MReader_next sh mm77 v0) (fun p83 => (if p83.1 = 44 then zoS (sh v0) 14 (fun le86 => zoL (((p83.2).1 v0 3) + 1) (fun x87 => zoS (sh v0) 14 (fun le89 => zoL (mI (p83.2) v0 3 x87) (fun mm90 => L_MReader_numbers_39 sh fu v0 v2 v3 v4 v5 v6 v7 v8 1 mm90)))) else L_MReader_numbers_39 sh fu v0 v2 v3 v4 v5 v6 v7 v8 0 (p83.2)))) else L_MReader_numbers_39 sh fu v0 v2 v3 v4 v5 v6 v7 v8 0 mm77)))))))))))))))))))))))))))))) else some (v0, v2, v3, v4, v5, v6, v7, v8, v9, mm))))
set_option maxHeartbeats 4000000 in
set_option maxRecDepth 100000 in
theorem lp_MReader_numbers_39 {p : Program} {l : Launch} {e : Env} {s : State} {m : MethodId} {args : Array Value} {below : List Frame} {meth : Method} {c : Code} {D : va_G} {tA : Nat → ClassId} {b n : Nat} {post : Option Value → zV → Nat → Prop} {sh : zSh} (F : zF p s m args meth c zb_MReader_numbers 10 "OrreryBoxModel$Reader" D tA b) : ∀ (fuel : Nat) (v0 : Nat) (v2 : Nat) (v3 : Int32) (v4 : Int32) (v5 : Int32) (v6 : Int32) (v7 : Int32) (v8 : Int32) (v9 : Int32) (mm : zMem) (r : Nat × Nat × Int32 × Int32 × Int32 × Int32 × Int32 × Int32 × Int32 × zMem), L_MReader_numbers_39 sh fuel v0 v2 v3 v4 v5 v6 v7 v8 v9 mm = some r → (Z p l e { frames := 6, cells := 0, slots := 0, locals := 128 } s m args below meth c D b 10 (MQ below (zQ D b post) args s 0 0 (fun q => b ≤ q)) (zW tA b sh r.2.2.2.2.2.2.2.2.2) n 0 0 209 [(0, .ref (b + (r.1))), (2, .ref (b + (r.2.1))), (3, .int (r.2.2.1)), (4, .int (r.2.2.2.1)), (5, .int (r.2.2.2.2.1)), (6, .int (r.2.2.2.2.2.1)), (7, .int (r.2.2.2.2.2.2.1)), (8, .int (r.2.2.2.2.2.2.2.1)), (9, .int (r.2.2.2.2.2.2.2.2.1))] []) → Z p l e { frames := 6, cells := 0, slots := 0, locals := 128 } s m args below meth c D b 10 (MQ below (zQ D b post) args s 0 0 (fun q => b ≤ q)) (zW tA b sh mm) n 0 0 39 [(0, .ref (b + v0)), (2, .ref (b + v2)), (3, .int v3), (4, .int v4), (5, .int v5), (6, .int v6), (7, .int v7), (8, .int v8), (9, .int v9)] [] := by
  intro fuel
  induction fuel with
  | zero =>
    intro v0 v2 v3 v4 v5 v6 v7 v8 v9 mm r h
    cases h
  | succ fu ih =>
    intro v0 v2 v3 v4 v5 v6 v7 v8 v9 mm r h hx0
    rw [L_MReader_numbers_39] at h
    refine zr_iload F zd_MReader_numbers_39 rfl ?_
    refine zr_pcn 41 rfl ?_
    refine zr_if_eq F 209 zd_MReader_numbers_41 (by decide) (fun hb13 => ?_) (fun hb13 => ?_)
    ·
      rw [if_pos hb13] at h
      obtain rfl := Option.some.inj h
      refine zr_loc (L' := [(0, .ref (b + v0)), (2, .ref (b + v2)), (3, .int v3), (4, .int v4), (5, .int v5), (6, .int v6), (7, .int v7), (8, .int v8), (9, .int v9)]) ⟨rfl, rfl, rfl, rfl, rfl, rfl, rfl, rfl, rfl, trivial⟩ ?_
      exact hx0 
    ·
      rw [if_neg hb13] at h
      refine zr_aload_n F zd_MReader_numbers_44 rfl ?_
      obtain ⟨le15, hs14, h⟩ := zoS_s h
      refine zr_get F 14 4 zd_MReader_numbers_45 (zW_o hs14 (by decide)) rfl (by decide) zw_1508 rfl (by rfl) ?_
      refine zr_if_ne F 209 zd_MReader_numbers_48 (by decide) (fun hb16 => ?_) (fun hb16 => ?_)
      ·
        rw [if_neg hb16] at h
        obtain rfl := Option.some.inj h
        refine zr_loc (L' := [(0, .ref (b + v0)), (2, .ref (b + v2)), (3, .int v3), (4, .int v4), (5, .int v5), (6, .int v6), (7, .int v7), (8, .int v8), (9, .int v9)]) ⟨rfl, rfl, rfl, rfl, rfl, rfl, rfl, rfl, rfl, trivial⟩ ?_
        exact hx0 
      ·
        rw [if_pos hb16] at h
        refine zr_aload_n F zd_MReader_numbers_51 rfl ?_
        obtain ⟨le18, hs17, h⟩ := zoS_s h
        obtain ⟨p19, ep19, h⟩ := zoB_s h
        refine zr_callV1 F (k_MReader_numberNext l D tA b sh _ ep19) zd_MReader_numbers_52 (zW_o hs17 (by decide)) rfl zs_MReader_87 rfl zq_MReader_numberNext rfl rfl ⟨(Nat.le_of_ble_eq_true rfl), (Nat.le_of_ble_eq_true rfl)⟩ (Nat.le_of_ble_eq_true rfl) ⟨(Nat.le_of_ble_eq_true rfl), (Nat.le_of_ble_eq_true rfl)⟩ ?_
        refine zr_if_ne F 70 zd_MReader_numbers_55 (by decide) (fun hb20 => ?_) (fun hb20 => ?_)
        ·
          rw [if_neg hb20] at h
          refine zr_aload_n F zd_MReader_numbers_70 rfl ?_
          refine zr_pcn 71 rfl ?_
          obtain ⟨le22, hs21, h⟩ := zoS_s h
          obtain ⟨p23, ep23, h⟩ := zoB_s h
          refine zr_callV0 F (k_MReader_takeNumber l D tA b sh _ ep23) zd_MReader_numbers_71 (zW_o hs21 (by decide)) rfl zs_MReader_91 rfl zq_MReader_takeNumber rfl rfl ⟨(Nat.le_of_ble_eq_true rfl), (Nat.le_of_ble_eq_true rfl)⟩ (Nat.le_of_ble_eq_true rfl) ⟨(Nat.le_of_ble_eq_true rfl), (Nat.le_of_ble_eq_true rfl)⟩ ?_
          refine zr_aload_n F zd_MReader_numbers_74 rfl ?_
          obtain ⟨le25, hs24, h⟩ := zoS_s h
          refine zr_get F 14 9 zd_MReader_numbers_75 (zW_o hs24 (by decide)) rfl (by decide) zw_1515 rfl (by rfl) ?_
          refine zr_iload F zd_MReader_numbers_78 rfl ?_
          refine zr_icmp_ne F 95 zd_MReader_numbers_80 (by decide) (fun hb26 => ?_) (fun hb26 => ?_)
          ·
            rw [if_neg hb26] at h
            refine zr_aload_n F zd_MReader_numbers_95 rfl ?_
            obtain ⟨le28, hs27, h⟩ := zoS_s h
            refine zr_get F 14 8 zd_MReader_numbers_96 (zW_o hs27 (by decide)) rfl (by decide) zw_1514 rfl (by rfl) ?_
            refine zr_if_eq F 134 zd_MReader_numbers_99 (by decide) (fun hb29 => ?_) (fun hb29 => ?_)
            ·
              rw [if_pos hb29] at h
              refine zr_pcn 134 rfl ?_
              refine zr_aload_n F zd_MReader_numbers_134 rfl ?_
              refine zr_iconstv (v := 2) F zd_MReader_numbers_135 (by decide) ?_
              refine zr_aload_n F zd_MReader_numbers_136 rfl ?_
              obtain ⟨le31, hs30, h⟩ := zoS_s h
              refine zr_get F 14 6 zd_MReader_numbers_137 (zW_o hs30 (by decide)) rfl (by decide) zw_1512 rfl (by rfl) ?_
              obtain ⟨le33, hs32, h⟩ := zoS_s h
              obtain ⟨p34, ep34, h⟩ := zoB_s h
              refine zr_callV0 F (k_MReader_fail l D tA b sh _ ep34) zd_MReader_numbers_140 (zW_o hs32 (by decide)) rfl zs_MReader_38 rfl zq_MReader_fail rfl rfl ⟨(Nat.le_of_ble_eq_true rfl), (Nat.le_of_ble_eq_true rfl)⟩ (Nat.le_of_ble_eq_true rfl) ⟨(Nat.le_of_ble_eq_true rfl), (Nat.le_of_ble_eq_true rfl)⟩ ?_
              refine zr_goto F 168 zd_MReader_numbers_143 (by decide) ?_
              refine zr_aload_n F zd_MReader_numbers_168 rfl ?_
              obtain ⟨le36, hs35, h⟩ := zoS_s h
              refine zr_get F 14 4 zd_MReader_numbers_169 (zW_o hs35 (by decide)) rfl (by decide) zw_1508 rfl (by rfl) ?_
              refine zr_pcn 172 rfl ?_
              refine zr_if_ne F 188 zd_MReader_numbers_172 (by decide) (fun hb37 => ?_) (fun hb37 => ?_)
              ·
                rw [if_neg hb37] at h
                refine zr_iconstv (v := 0) F zd_MReader_numbers_188 (by decide) ?_
                refine zr_istore F zd_MReader_numbers_189 (by decide) ?_
                refine zr_iload F zd_MReader_numbers_191 rfl ?_
                refine zr_if_eq F 39 zd_MReader_numbers_193 (by decide) (fun _ => ?_) (fun hq => absurd hq (by decide))
                refine zr_loc (L' := [(0, .ref (b + v0)), (2, .ref (b + v2)), (3, .int v3), (4, .int v4), (5, .int v5), (6, .int v6), (7, .int v7), (8, .int v8), (9, .int 0)]) ⟨rfl, rfl, rfl, rfl, rfl, rfl, rfl, rfl, rfl, trivial⟩ ?_
                exact ih _ _ _ _ _ _ _ _ _ _ _ h hx0
              ·
                rw [if_pos hb37] at h
                refine zr_aload_n F zd_MReader_numbers_175 rfl ?_
                obtain ⟨le39, hs38, h⟩ := zoS_s h
                obtain ⟨p40, ep40, h⟩ := zoB_s h
                refine zr_callV1 F (k_MReader_next l D tA b sh _ ep40) zd_MReader_numbers_176 (zW_o hs38 (by decide)) rfl zs_MReader_34 rfl zq_MReader_next rfl rfl ⟨(Nat.le_of_ble_eq_true rfl), (Nat.le_of_ble_eq_true rfl)⟩ (Nat.le_of_ble_eq_true rfl) ⟨(Nat.le_of_ble_eq_true rfl), (Nat.le_of_ble_eq_true rfl)⟩ ?_
                refine zr_bipushv (v := 44) F zd_MReader_numbers_179 (by decide) ?_
                refine zr_pcn 181 rfl ?_
                refine zr_icmp_ne F 188 zd_MReader_numbers_181 (by decide) (fun hb41 => ?_) (fun hb41 => ?_)
                ·
                  rw [if_neg hb41] at h
                  refine zr_iconstv (v := 0) F zd_MReader_numbers_188 (by decide) ?_
                  refine zr_istore F zd_MReader_numbers_189 (by decide) ?_
                  refine zr_iload F zd_MReader_numbers_191 rfl ?_
                  refine zr_if_eq F 39 zd_MReader_numbers_193 (by decide) (fun _ => ?_) (fun hq => absurd hq (by decide))
                  refine zr_loc (L' := [(0, .ref (b + v0)), (2, .ref (b + v2)), (3, .int v3), (4, .int v4), (5, .int v5), (6, .int v6), (7, .int v7), (8, .int v8), (9, .int 0)]) ⟨rfl, rfl, rfl, rfl, rfl, rfl, rfl, rfl, rfl, trivial⟩ ?_
                  exact ih _ _ _ _ _ _ _ _ _ _ _ h hx0
                ·
                  rw [if_pos hb41] at h
                  refine zr_iconstv (v := 1) F zd_MReader_numbers_184 (by decide) ?_
                  refine zr_goto F 189 zd_MReader_numbers_185 (by decide) ?_
                  refine zr_istore F zd_MReader_numbers_189 (by decide) ?_
                  refine zr_pcn 191 rfl ?_
                  refine zr_iload F zd_MReader_numbers_191 rfl ?_
                  refine zr_if_eq F 39 zd_MReader_numbers_193 (by decide) (fun hq => absurd hq (by decide)) (fun _ => ?_)
                  refine zr_aload_n F zd_MReader_numbers_196 rfl ?_
                  refine zr_dup F zd_MReader_numbers_197 rfl ?_
                  obtain ⟨le43, hs42, h⟩ := zoS_s h
                  refine zr_get F 14 3 zd_MReader_numbers_198 (zW_o hs42 (by decide)) rfl (by decide) zw_1507 rfl (by rfl) ?_
                  refine zr_iconstv (v := 1) F zd_MReader_numbers_201 (by decide) ?_
                  refine zr_iadd F zd_MReader_numbers_202 ?_
                  obtain ⟨x44, ex44, h⟩ := zoL_s h
                  rw [← ex44]
                  obtain ⟨le46, hs45, h⟩ := zoS_s h
                  refine zr_put F 14 3 zd_MReader_numbers_203 (zW_o hs45 (by decide)) rfl (by decide) zw_1507 rfl rfl rfl rfl (by exact (Nat.le_of_ble_eq_true rfl)) ?_
                  obtain ⟨mm47, emm47, h⟩ := zoL_s h
                  refine zr_norm (zW tA b sh mm47) _ (by rw [emm47]; exact zW_pI (v := x44) hs45 (by decide) (zf_I_14_3 b _ _ _)) rfl ?_
                  refine zr_pcn 206 rfl ?_
                  refine zr_goto F 39 zd_MReader_numbers_206 (by decide) ?_
                  refine zr_loc (L' := [(0, .ref (b + v0)), (2, .ref (b + v2)), (3, .int v3), (4, .int v4), (5, .int v5), (6, .int v6), (7, .int v7), (8, .int v8), (9, .int 1)]) ⟨rfl, rfl, rfl, rfl, rfl, rfl, rfl, rfl, rfl, trivial⟩ ?_
                  exact ih _ _ _ _ _ _ _ _ _ _ _ h hx0
            ·
              rw [if_neg hb29] at h
              refine zr_aload_n F zd_MReader_numbers_102 rfl ?_
              refine zr_iload F zd_MReader_numbers_103 rfl ?_
              refine zr_aload_n F zd_MReader_numbers_105 rfl ?_
              obtain ⟨le49, hs48, h⟩ := zoS_s h
              refine zr_get F 14 9 zd_MReader_numbers_106 (zW_o hs48 (by decide)) rfl (by decide) zw_1515 rfl (by rfl) ?_
              refine zr_if_ne F 116 zd_MReader_numbers_109 (by decide) (fun hb50 => ?_) (fun hb50 => ?_)
              ·
                rw [if_neg hb50] at h
                refine zr_aload_n F zd_MReader_numbers_116 rfl ?_
                refine zr_iload_n F zd_MReader_numbers_117 rfl ?_
                refine zr_pcn 118 rfl ?_
                refine zr_aload_n F zd_MReader_numbers_118 rfl ?_
                obtain ⟨le52, hs51, h⟩ := zoS_s h
                refine zr_get F 14 9 zd_MReader_numbers_119 (zW_o hs51 (by decide)) rfl (by decide) zw_1515 rfl (by rfl) ?_
                refine zr_iadd F zd_MReader_numbers_122 ?_
                refine zr_iconstv (v := 1) F zd_MReader_numbers_123 (by decide) ?_
                refine zr_isub F zd_MReader_numbers_124 ?_
                obtain ⟨i53, ei53, h⟩ := zoL_s h
                rw [← ei53]
                obtain ⟨le55, hs54, h⟩ := zoS_s h
                obtain ⟨hi56, h⟩ := zoI_s h
                refine zr_iald F zd_MReader_numbers_125 (zW_a0 hs54) hi56 ?_
                refine zr_iload F zd_MReader_numbers_126 rfl ?_
                obtain ⟨le58, hs57, h⟩ := zoS_s h
                obtain ⟨x59, ex59, h⟩ := zoL_s h
                rw [← ex59]
                obtain ⟨p60, ep60, h⟩ := zoB_s h
                refine zr_callV1 F (k_MReader_fits l D tA b sh _ ep60) zd_MReader_numbers_128 (zW_o hs57 (by decide)) rfl zs_MReader_106 rfl zq_MReader_fits rfl rfl ⟨(Nat.le_of_ble_eq_true rfl), (Nat.le_of_ble_eq_true rfl)⟩ (Nat.le_of_ble_eq_true rfl) ⟨(Nat.le_of_ble_eq_true rfl), (Nat.le_of_ble_eq_true rfl)⟩ ?_
                refine zr_pcn 131 rfl ?_
                refine zr_if_ne F 146 zd_MReader_numbers_131 (by decide) (fun hb61 => ?_) (fun hb61 => ?_)
                ·
                  rw [if_neg hb61] at h
                  refine zr_aload_n F zd_MReader_numbers_146 rfl ?_
                  refine zr_iload_n F zd_MReader_numbers_147 rfl ?_
                  refine zr_aload_n F zd_MReader_numbers_148 rfl ?_
                  obtain ⟨le63, hs62, h⟩ := zoS_s h
                  refine zr_get F 14 9 zd_MReader_numbers_149 (zW_o hs62 (by decide)) rfl (by decide) zw_1515 rfl (by rfl) ?_
                  refine zr_iadd F zd_MReader_numbers_152 ?_
                  refine zr_aload_n F zd_MReader_numbers_153 rfl ?_
                  obtain ⟨le65, hs64, h⟩ := zoS_s h
                  refine zr_get F 14 7 zd_MReader_numbers_154 (zW_o hs64 (by decide)) rfl (by decide) zw_1513 rfl (by rfl) ?_
                  refine zr_pcn 157 rfl ?_
                  obtain ⟨x66, ex66, h⟩ := zoL_s h
                  rw [← ex66]
                  obtain ⟨i67, ei67, h⟩ := zoL_s h
                  rw [← ei67]
                  obtain ⟨le69, hs68, h⟩ := zoS_s h
                  obtain ⟨hi70, h⟩ := zoI_s h
                  refine zr_iast F zd_MReader_numbers_157 (zW_a0 hs68) hi70 ?_
                  obtain ⟨mm71, emm71, h⟩ := zoL_s h
                  refine zr_norm (zW tA b sh mm71) _ (by rw [emm71]; exact zW_s0 hs68) rfl ?_
                  refine zr_aload_n F zd_MReader_numbers_158 rfl ?_
                  refine zr_dup F zd_MReader_numbers_159 rfl ?_
                  obtain ⟨le73, hs72, h⟩ := zoS_s h
                  refine zr_get F 14 9 zd_MReader_numbers_160 (zW_o hs72 (by decide)) rfl (by decide) zw_1515 rfl (by rfl) ?_
                  refine zr_iconstv (v := 1) F zd_MReader_numbers_163 (by decide) ?_
                  refine zr_iadd F zd_MReader_numbers_164 ?_
                  obtain ⟨x74, ex74, h⟩ := zoL_s h
                  rw [← ex74]
                  obtain ⟨le76, hs75, h⟩ := zoS_s h
                  refine zr_put F 14 9 zd_MReader_numbers_165 (zW_o hs75 (by decide)) rfl (by decide) zw_1515 rfl rfl rfl rfl (by exact (Nat.le_of_ble_eq_true rfl)) ?_
                  obtain ⟨mm77, emm77, h⟩ := zoL_s h
                  refine zr_norm (zW tA b sh mm77) _ (by rw [emm77]; exact zW_pI (v := x74) hs75 (by decide) (zf_I_14_9 b _ _ _)) rfl ?_
                  refine zr_aload_n F zd_MReader_numbers_168 rfl ?_
                  refine zr_pcn 169 rfl ?_
                  obtain ⟨le79, hs78, h⟩ := zoS_s h
                  refine zr_get F 14 4 zd_MReader_numbers_169 (zW_o hs78 (by decide)) rfl (by decide) zw_1508 rfl (by rfl) ?_
                  refine zr_if_ne F 188 zd_MReader_numbers_172 (by decide) (fun hb80 => ?_) (fun hb80 => ?_)
                  ·
                    rw [if_neg hb80] at h
                    refine zr_iconstv (v := 0) F zd_MReader_numbers_188 (by decide) ?_
                    refine zr_istore F zd_MReader_numbers_189 (by decide) ?_
                    refine zr_iload F zd_MReader_numbers_191 rfl ?_
                    refine zr_if_eq F 39 zd_MReader_numbers_193 (by decide) (fun _ => ?_) (fun hq => absurd hq (by decide))
                    refine zr_loc (L' := [(0, .ref (b + v0)), (2, .ref (b + v2)), (3, .int v3), (4, .int v4), (5, .int v5), (6, .int v6), (7, .int v7), (8, .int v8), (9, .int 0)]) ⟨rfl, rfl, rfl, rfl, rfl, rfl, rfl, rfl, rfl, trivial⟩ ?_
                    exact ih _ _ _ _ _ _ _ _ _ _ _ h hx0
                  ·
                    rw [if_pos hb80] at h
                    refine zr_aload_n F zd_MReader_numbers_175 rfl ?_
                    obtain ⟨le82, hs81, h⟩ := zoS_s h
                    obtain ⟨p83, ep83, h⟩ := zoB_s h
                    refine zr_callV1 F (k_MReader_next l D tA b sh _ ep83) zd_MReader_numbers_176 (zW_o hs81 (by decide)) rfl zs_MReader_34 rfl zq_MReader_next rfl rfl ⟨(Nat.le_of_ble_eq_true rfl), (Nat.le_of_ble_eq_true rfl)⟩ (Nat.le_of_ble_eq_true rfl) ⟨(Nat.le_of_ble_eq_true rfl), (Nat.le_of_ble_eq_true rfl)⟩ ?_
                    refine zr_pcn 179 rfl ?_
                    refine zr_bipushv (v := 44) F zd_MReader_numbers_179 (by decide) ?_
                    refine zr_icmp_ne F 188 zd_MReader_numbers_181 (by decide) (fun hb84 => ?_) (fun hb84 => ?_)
                    ·
                      rw [if_neg hb84] at h
                      refine zr_iconstv (v := 0) F zd_MReader_numbers_188 (by decide) ?_
                      refine zr_istore F zd_MReader_numbers_189 (by decide) ?_
                      refine zr_iload F zd_MReader_numbers_191 rfl ?_
                      refine zr_if_eq F 39 zd_MReader_numbers_193 (by decide) (fun _ => ?_) (fun hq => absurd hq (by decide))
                      refine zr_loc (L' := [(0, .ref (b + v0)), (2, .ref (b + v2)), (3, .int v3), (4, .int v4), (5, .int v5), (6, .int v6), (7, .int v7), (8, .int v8), (9, .int 0)]) ⟨rfl, rfl, rfl, rfl, rfl, rfl, rfl, rfl, rfl, trivial⟩ ?_
                      exact ih _ _ _ _ _ _ _ _ _ _ _ h hx0
                    ·
                      rw [if_pos hb84] at h
                      refine zr_iconstv (v := 1) F zd_MReader_numbers_184 (by decide) ?_
                      refine zr_goto F 189 zd_MReader_numbers_185 (by decide) ?_
                      refine zr_pcn 189 rfl ?_
                      refine zr_istore F zd_MReader_numbers_189 (by decide) ?_
                      refine zr_iload F zd_MReader_numbers_191 rfl ?_
                      refine zr_if_eq F 39 zd_MReader_numbers_193 (by decide) (fun hq => absurd hq (by decide)) (fun _ => ?_)
                      refine zr_aload_n F zd_MReader_numbers_196 rfl ?_
                      refine zr_dup F zd_MReader_numbers_197 rfl ?_
                      obtain ⟨le86, hs85, h⟩ := zoS_s h
                      refine zr_get F 14 3 zd_MReader_numbers_198 (zW_o hs85 (by decide)) rfl (by decide) zw_1507 rfl (by rfl) ?_
                      refine zr_iconstv (v := 1) F zd_MReader_numbers_201 (by decide) ?_
                      refine zr_iadd F zd_MReader_numbers_202 ?_
                      refine zr_pcn 203 rfl ?_
                      obtain ⟨x87, ex87, h⟩ := zoL_s h
                      rw [← ex87]
                      obtain ⟨le89, hs88, h⟩ := zoS_s h
                      refine zr_put F 14 3 zd_MReader_numbers_203 (zW_o hs88 (by decide)) rfl (by decide) zw_1507 rfl rfl rfl rfl (by exact (Nat.le_of_ble_eq_true rfl)) ?_
                      obtain ⟨mm90, emm90, h⟩ := zoL_s h
                      refine zr_norm (zW tA b sh mm90) _ (by rw [emm90]; exact zW_pI (v := x87) hs88 (by decide) (zf_I_14_3 b _ _ _)) rfl ?_
                      refine zr_goto F 39 zd_MReader_numbers_206 (by decide) ?_
                      refine zr_loc (L' := [(0, .ref (b + v0)), (2, .ref (b + v2)), (3, .int v3), (4, .int v4), (5, .int v5), (6, .int v6), (7, .int v7), (8, .int v8), (9, .int 1)]) ⟨rfl, rfl, rfl, rfl, rfl, rfl, rfl, rfl, rfl, trivial⟩ ?_
                      exact ih _ _ _ _ _ _ _ _ _ _ _ h hx0
                ·
                  rw [if_pos hb61] at h
                  refine zr_aload_n F zd_MReader_numbers_134 rfl ?_
                  refine zr_iconstv (v := 2) F zd_MReader_numbers_135 (by decide) ?_
                  refine zr_aload_n F zd_MReader_numbers_136 rfl ?_
                  obtain ⟨le92, hs91, h⟩ := zoS_s h
                  refine zr_get F 14 6 zd_MReader_numbers_137 (zW_o hs91 (by decide)) rfl (by decide) zw_1512 rfl (by rfl) ?_
                  obtain ⟨le94, hs93, h⟩ := zoS_s h
                  obtain ⟨p95, ep95, h⟩ := zoB_s h
                  refine zr_callV0 F (k_MReader_fail l D tA b sh _ ep95) zd_MReader_numbers_140 (zW_o hs93 (by decide)) rfl zs_MReader_38 rfl zq_MReader_fail rfl rfl ⟨(Nat.le_of_ble_eq_true rfl), (Nat.le_of_ble_eq_true rfl)⟩ (Nat.le_of_ble_eq_true rfl) ⟨(Nat.le_of_ble_eq_true rfl), (Nat.le_of_ble_eq_true rfl)⟩ ?_
                  refine zr_goto F 168 zd_MReader_numbers_143 (by decide) ?_
                  refine zr_pcn 168 rfl ?_
                  refine zr_aload_n F zd_MReader_numbers_168 rfl ?_
                  obtain ⟨le97, hs96, h⟩ := zoS_s h
                  refine zr_get F 14 4 zd_MReader_numbers_169 (zW_o hs96 (by decide)) rfl (by decide) zw_1508 rfl (by rfl) ?_
                  refine zr_if_ne F 188 zd_MReader_numbers_172 (by decide) (fun hb98 => ?_) (fun hb98 => ?_)
                  ·
                    rw [if_neg hb98] at h
                    refine zr_iconstv (v := 0) F zd_MReader_numbers_188 (by decide) ?_
                    refine zr_istore F zd_MReader_numbers_189 (by decide) ?_
                    refine zr_iload F zd_MReader_numbers_191 rfl ?_
                    refine zr_if_eq F 39 zd_MReader_numbers_193 (by decide) (fun _ => ?_) (fun hq => absurd hq (by decide))
                    refine zr_loc (L' := [(0, .ref (b + v0)), (2, .ref (b + v2)), (3, .int v3), (4, .int v4), (5, .int v5), (6, .int v6), (7, .int v7), (8, .int v8), (9, .int 0)]) ⟨rfl, rfl, rfl, rfl, rfl, rfl, rfl, rfl, rfl, trivial⟩ ?_
                    exact ih _ _ _ _ _ _ _ _ _ _ _ h hx0
                  ·
                    rw [if_pos hb98] at h
                    refine zr_aload_n F zd_MReader_numbers_175 rfl ?_
                    refine zr_pcn 176 rfl ?_
                    obtain ⟨le100, hs99, h⟩ := zoS_s h
                    obtain ⟨p101, ep101, h⟩ := zoB_s h
                    refine zr_callV1 F (k_MReader_next l D tA b sh _ ep101) zd_MReader_numbers_176 (zW_o hs99 (by decide)) rfl zs_MReader_34 rfl zq_MReader_next rfl rfl ⟨(Nat.le_of_ble_eq_true rfl), (Nat.le_of_ble_eq_true rfl)⟩ (Nat.le_of_ble_eq_true rfl) ⟨(Nat.le_of_ble_eq_true rfl), (Nat.le_of_ble_eq_true rfl)⟩ ?_
                    refine zr_bipushv (v := 44) F zd_MReader_numbers_179 (by decide) ?_
                    refine zr_icmp_ne F 188 zd_MReader_numbers_181 (by decide) (fun hb102 => ?_) (fun hb102 => ?_)
                    ·
                      rw [if_neg hb102] at h
                      refine zr_iconstv (v := 0) F zd_MReader_numbers_188 (by decide) ?_
                      refine zr_istore F zd_MReader_numbers_189 (by decide) ?_
                      refine zr_iload F zd_MReader_numbers_191 rfl ?_
                      refine zr_if_eq F 39 zd_MReader_numbers_193 (by decide) (fun _ => ?_) (fun hq => absurd hq (by decide))
                      refine zr_loc (L' := [(0, .ref (b + v0)), (2, .ref (b + v2)), (3, .int v3), (4, .int v4), (5, .int v5), (6, .int v6), (7, .int v7), (8, .int v8), (9, .int 0)]) ⟨rfl, rfl, rfl, rfl, rfl, rfl, rfl, rfl, rfl, trivial⟩ ?_
                      exact ih _ _ _ _ _ _ _ _ _ _ _ h hx0
                    ·
                      rw [if_pos hb102] at h
                      refine zr_iconstv (v := 1) F zd_MReader_numbers_184 (by decide) ?_
                      refine zr_pcn 185 rfl ?_
                      refine zr_goto F 189 zd_MReader_numbers_185 (by decide) ?_
                      refine zr_istore F zd_MReader_numbers_189 (by decide) ?_
                      refine zr_iload F zd_MReader_numbers_191 rfl ?_
                      refine zr_if_eq F 39 zd_MReader_numbers_193 (by decide) (fun hq => absurd hq (by decide)) (fun _ => ?_)
                      refine zr_aload_n F zd_MReader_numbers_196 rfl ?_
                      refine zr_dup F zd_MReader_numbers_197 rfl ?_
                      obtain ⟨le104, hs103, h⟩ := zoS_s h
                      refine zr_get F 14 3 zd_MReader_numbers_198 (zW_o hs103 (by decide)) rfl (by decide) zw_1507 rfl (by rfl) ?_
                      refine zr_iconstv (v := 1) F zd_MReader_numbers_201 (by decide) ?_
                      refine zr_pcn 202 rfl ?_
                      refine zr_iadd F zd_MReader_numbers_202 ?_
                      obtain ⟨x105, ex105, h⟩ := zoL_s h
                      rw [← ex105]
                      obtain ⟨le107, hs106, h⟩ := zoS_s h
                      refine zr_put F 14 3 zd_MReader_numbers_203 (zW_o hs106 (by decide)) rfl (by decide) zw_1507 rfl rfl rfl rfl (by exact (Nat.le_of_ble_eq_true rfl)) ?_
                      obtain ⟨mm108, emm108, h⟩ := zoL_s h
                      refine zr_norm (zW tA b sh mm108) _ (by rw [emm108]; exact zW_pI (v := x105) hs106 (by decide) (zf_I_14_3 b _ _ _)) rfl ?_
                      refine zr_goto F 39 zd_MReader_numbers_206 (by decide) ?_
                      refine zr_loc (L' := [(0, .ref (b + v0)), (2, .ref (b + v2)), (3, .int v3), (4, .int v4), (5, .int v5), (6, .int v6), (7, .int v7), (8, .int v8), (9, .int 1)]) ⟨rfl, rfl, rfl, rfl, rfl, rfl, rfl, rfl, rfl, trivial⟩ ?_
                      exact ih _ _ _ _ _ _ _ _ _ _ _ h hx0
              ·
                rw [if_pos hb50] at h
                refine zr_iconstv (v := (-1)) F zd_MReader_numbers_112 (by decide) ?_
                refine zr_goto F 126 zd_MReader_numbers_113 (by decide) ?_
                refine zr_iload F zd_MReader_numbers_126 rfl ?_
                obtain ⟨le110, hs109, h⟩ := zoS_s h
                obtain ⟨p111, ep111, h⟩ := zoB_s h
                refine zr_callV1 F (k_MReader_fits l D tA b sh _ ep111) zd_MReader_numbers_128 (zW_o hs109 (by decide)) rfl zs_MReader_106 rfl zq_MReader_fits rfl rfl ⟨(Nat.le_of_ble_eq_true rfl), (Nat.le_of_ble_eq_true rfl)⟩ (Nat.le_of_ble_eq_true rfl) ⟨(Nat.le_of_ble_eq_true rfl), (Nat.le_of_ble_eq_true rfl)⟩ ?_
                refine zr_if_ne F 146 zd_MReader_numbers_131 (by decide) (fun hb112 => ?_) (fun hb112 => ?_)
                ·
                  rw [if_neg hb112] at h
                  refine zr_pcn 146 rfl ?_
                  refine zr_aload_n F zd_MReader_numbers_146 rfl ?_
                  refine zr_iload_n F zd_MReader_numbers_147 rfl ?_
                  refine zr_aload_n F zd_MReader_numbers_148 rfl ?_
                  obtain ⟨le114, hs113, h⟩ := zoS_s h
                  refine zr_get F 14 9 zd_MReader_numbers_149 (zW_o hs113 (by decide)) rfl (by decide) zw_1515 rfl (by rfl) ?_
                  refine zr_iadd F zd_MReader_numbers_152 ?_
                  refine zr_aload_n F zd_MReader_numbers_153 rfl ?_
                  obtain ⟨le116, hs115, h⟩ := zoS_s h
                  refine zr_get F 14 7 zd_MReader_numbers_154 (zW_o hs115 (by decide)) rfl (by decide) zw_1513 rfl (by rfl) ?_
                  obtain ⟨x117, ex117, h⟩ := zoL_s h
                  rw [← ex117]
                  obtain ⟨i118, ei118, h⟩ := zoL_s h
                  rw [← ei118]
                  obtain ⟨le120, hs119, h⟩ := zoS_s h
                  obtain ⟨hi121, h⟩ := zoI_s h
                  refine zr_iast F zd_MReader_numbers_157 (zW_a0 hs119) hi121 ?_
                  obtain ⟨mm122, emm122, h⟩ := zoL_s h
                  refine zr_norm (zW tA b sh mm122) _ (by rw [emm122]; exact zW_s0 hs119) rfl ?_
                  refine zr_pcn 158 rfl ?_
                  refine zr_aload_n F zd_MReader_numbers_158 rfl ?_
                  refine zr_dup F zd_MReader_numbers_159 rfl ?_
                  obtain ⟨le124, hs123, h⟩ := zoS_s h
                  refine zr_get F 14 9 zd_MReader_numbers_160 (zW_o hs123 (by decide)) rfl (by decide) zw_1515 rfl (by rfl) ?_
                  refine zr_iconstv (v := 1) F zd_MReader_numbers_163 (by decide) ?_
                  refine zr_iadd F zd_MReader_numbers_164 ?_
                  obtain ⟨x125, ex125, h⟩ := zoL_s h
                  rw [← ex125]
                  obtain ⟨le127, hs126, h⟩ := zoS_s h
                  refine zr_put F 14 9 zd_MReader_numbers_165 (zW_o hs126 (by decide)) rfl (by decide) zw_1515 rfl rfl rfl rfl (by exact (Nat.le_of_ble_eq_true rfl)) ?_
                  obtain ⟨mm128, emm128, h⟩ := zoL_s h
                  refine zr_norm (zW tA b sh mm128) _ (by rw [emm128]; exact zW_pI (v := x125) hs126 (by decide) (zf_I_14_9 b _ _ _)) rfl ?_
                  refine zr_aload_n F zd_MReader_numbers_168 rfl ?_
                  obtain ⟨le130, hs129, h⟩ := zoS_s h
                  refine zr_get F 14 4 zd_MReader_numbers_169 (zW_o hs129 (by decide)) rfl (by decide) zw_1508 rfl (by rfl) ?_
                  refine zr_pcn 172 rfl ?_
                  refine zr_if_ne F 188 zd_MReader_numbers_172 (by decide) (fun hb131 => ?_) (fun hb131 => ?_)
                  ·
                    rw [if_neg hb131] at h
                    refine zr_iconstv (v := 0) F zd_MReader_numbers_188 (by decide) ?_
                    refine zr_istore F zd_MReader_numbers_189 (by decide) ?_
                    refine zr_iload F zd_MReader_numbers_191 rfl ?_
                    refine zr_if_eq F 39 zd_MReader_numbers_193 (by decide) (fun _ => ?_) (fun hq => absurd hq (by decide))
                    refine zr_loc (L' := [(0, .ref (b + v0)), (2, .ref (b + v2)), (3, .int v3), (4, .int v4), (5, .int v5), (6, .int v6), (7, .int v7), (8, .int v8), (9, .int 0)]) ⟨rfl, rfl, rfl, rfl, rfl, rfl, rfl, rfl, rfl, trivial⟩ ?_
                    exact ih _ _ _ _ _ _ _ _ _ _ _ h hx0
                  ·
                    rw [if_pos hb131] at h
                    refine zr_aload_n F zd_MReader_numbers_175 rfl ?_
                    obtain ⟨le133, hs132, h⟩ := zoS_s h
                    obtain ⟨p134, ep134, h⟩ := zoB_s h
                    refine zr_callV1 F (k_MReader_next l D tA b sh _ ep134) zd_MReader_numbers_176 (zW_o hs132 (by decide)) rfl zs_MReader_34 rfl zq_MReader_next rfl rfl ⟨(Nat.le_of_ble_eq_true rfl), (Nat.le_of_ble_eq_true rfl)⟩ (Nat.le_of_ble_eq_true rfl) ⟨(Nat.le_of_ble_eq_true rfl), (Nat.le_of_ble_eq_true rfl)⟩ ?_
                    refine zr_bipushv (v := 44) F zd_MReader_numbers_179 (by decide) ?_
                    refine zr_pcn 181 rfl ?_
                    refine zr_icmp_ne F 188 zd_MReader_numbers_181 (by decide) (fun hb135 => ?_) (fun hb135 => ?_)
                    ·
                      rw [if_neg hb135] at h
                      refine zr_iconstv (v := 0) F zd_MReader_numbers_188 (by decide) ?_
                      refine zr_istore F zd_MReader_numbers_189 (by decide) ?_
                      refine zr_iload F zd_MReader_numbers_191 rfl ?_
                      refine zr_if_eq F 39 zd_MReader_numbers_193 (by decide) (fun _ => ?_) (fun hq => absurd hq (by decide))
                      refine zr_loc (L' := [(0, .ref (b + v0)), (2, .ref (b + v2)), (3, .int v3), (4, .int v4), (5, .int v5), (6, .int v6), (7, .int v7), (8, .int v8), (9, .int 0)]) ⟨rfl, rfl, rfl, rfl, rfl, rfl, rfl, rfl, rfl, trivial⟩ ?_
                      exact ih _ _ _ _ _ _ _ _ _ _ _ h hx0
                    ·
                      rw [if_pos hb135] at h
                      refine zr_iconstv (v := 1) F zd_MReader_numbers_184 (by decide) ?_
                      refine zr_goto F 189 zd_MReader_numbers_185 (by decide) ?_
                      refine zr_istore F zd_MReader_numbers_189 (by decide) ?_
                      refine zr_pcn 191 rfl ?_
                      refine zr_iload F zd_MReader_numbers_191 rfl ?_
                      refine zr_if_eq F 39 zd_MReader_numbers_193 (by decide) (fun hq => absurd hq (by decide)) (fun _ => ?_)
                      refine zr_aload_n F zd_MReader_numbers_196 rfl ?_
                      refine zr_dup F zd_MReader_numbers_197 rfl ?_
                      obtain ⟨le137, hs136, h⟩ := zoS_s h
                      refine zr_get F 14 3 zd_MReader_numbers_198 (zW_o hs136 (by decide)) rfl (by decide) zw_1507 rfl (by rfl) ?_
                      refine zr_iconstv (v := 1) F zd_MReader_numbers_201 (by decide) ?_
                      refine zr_iadd F zd_MReader_numbers_202 ?_
                      obtain ⟨x138, ex138, h⟩ := zoL_s h
                      rw [← ex138]
                      obtain ⟨le140, hs139, h⟩ := zoS_s h
                      refine zr_put F 14 3 zd_MReader_numbers_203 (zW_o hs139 (by decide)) rfl (by decide) zw_1507 rfl rfl rfl rfl (by exact (Nat.le_of_ble_eq_true rfl)) ?_
                      obtain ⟨mm141, emm141, h⟩ := zoL_s h
                      refine zr_norm (zW tA b sh mm141) _ (by rw [emm141]; exact zW_pI (v := x138) hs139 (by decide) (zf_I_14_3 b _ _ _)) rfl ?_
                      refine zr_pcn 206 rfl ?_
                      refine zr_goto F 39 zd_MReader_numbers_206 (by decide) ?_
                      refine zr_loc (L' := [(0, .ref (b + v0)), (2, .ref (b + v2)), (3, .int v3), (4, .int v4), (5, .int v5), (6, .int v6), (7, .int v7), (8, .int v8), (9, .int 1)]) ⟨rfl, rfl, rfl, rfl, rfl, rfl, rfl, rfl, rfl, trivial⟩ ?_
                      exact ih _ _ _ _ _ _ _ _ _ _ _ h hx0
                ·
                  rw [if_pos hb112] at h
                  refine zr_aload_n F zd_MReader_numbers_134 rfl ?_
                  refine zr_iconstv (v := 2) F zd_MReader_numbers_135 (by decide) ?_
                  refine zr_aload_n F zd_MReader_numbers_136 rfl ?_
                  obtain ⟨le143, hs142, h⟩ := zoS_s h
                  refine zr_get F 14 6 zd_MReader_numbers_137 (zW_o hs142 (by decide)) rfl (by decide) zw_1512 rfl (by rfl) ?_
                  obtain ⟨le145, hs144, h⟩ := zoS_s h
                  obtain ⟨p146, ep146, h⟩ := zoB_s h
                  refine zr_callV0 F (k_MReader_fail l D tA b sh _ ep146) zd_MReader_numbers_140 (zW_o hs144 (by decide)) rfl zs_MReader_38 rfl zq_MReader_fail rfl rfl ⟨(Nat.le_of_ble_eq_true rfl), (Nat.le_of_ble_eq_true rfl)⟩ (Nat.le_of_ble_eq_true rfl) ⟨(Nat.le_of_ble_eq_true rfl), (Nat.le_of_ble_eq_true rfl)⟩ ?_
                  refine zr_goto F 168 zd_MReader_numbers_143 (by decide) ?_
                  refine zr_aload_n F zd_MReader_numbers_168 rfl ?_
                  refine zr_pcn 169 rfl ?_
                  obtain ⟨le148, hs147, h⟩ := zoS_s h
                  refine zr_get F 14 4 zd_MReader_numbers_169 (zW_o hs147 (by decide)) rfl (by decide) zw_1508 rfl (by rfl) ?_
                  refine zr_if_ne F 188 zd_MReader_numbers_172 (by decide) (fun hb149 => ?_) (fun hb149 => ?_)
                  ·
                    rw [if_neg hb149] at h
                    refine zr_iconstv (v := 0) F zd_MReader_numbers_188 (by decide) ?_
                    refine zr_istore F zd_MReader_numbers_189 (by decide) ?_
                    refine zr_iload F zd_MReader_numbers_191 rfl ?_
                    refine zr_if_eq F 39 zd_MReader_numbers_193 (by decide) (fun _ => ?_) (fun hq => absurd hq (by decide))
                    refine zr_loc (L' := [(0, .ref (b + v0)), (2, .ref (b + v2)), (3, .int v3), (4, .int v4), (5, .int v5), (6, .int v6), (7, .int v7), (8, .int v8), (9, .int 0)]) ⟨rfl, rfl, rfl, rfl, rfl, rfl, rfl, rfl, rfl, trivial⟩ ?_
                    exact ih _ _ _ _ _ _ _ _ _ _ _ h hx0
                  ·
                    rw [if_pos hb149] at h
                    refine zr_aload_n F zd_MReader_numbers_175 rfl ?_
                    obtain ⟨le151, hs150, h⟩ := zoS_s h
                    obtain ⟨p152, ep152, h⟩ := zoB_s h
                    refine zr_callV1 F (k_MReader_next l D tA b sh _ ep152) zd_MReader_numbers_176 (zW_o hs150 (by decide)) rfl zs_MReader_34 rfl zq_MReader_next rfl rfl ⟨(Nat.le_of_ble_eq_true rfl), (Nat.le_of_ble_eq_true rfl)⟩ (Nat.le_of_ble_eq_true rfl) ⟨(Nat.le_of_ble_eq_true rfl), (Nat.le_of_ble_eq_true rfl)⟩ ?_
                    refine zr_pcn 179 rfl ?_
                    refine zr_bipushv (v := 44) F zd_MReader_numbers_179 (by decide) ?_
                    refine zr_icmp_ne F 188 zd_MReader_numbers_181 (by decide) (fun hb153 => ?_) (fun hb153 => ?_)
                    ·
                      rw [if_neg hb153] at h
                      refine zr_iconstv (v := 0) F zd_MReader_numbers_188 (by decide) ?_
                      refine zr_istore F zd_MReader_numbers_189 (by decide) ?_
                      refine zr_iload F zd_MReader_numbers_191 rfl ?_
                      refine zr_if_eq F 39 zd_MReader_numbers_193 (by decide) (fun _ => ?_) (fun hq => absurd hq (by decide))
                      refine zr_loc (L' := [(0, .ref (b + v0)), (2, .ref (b + v2)), (3, .int v3), (4, .int v4), (5, .int v5), (6, .int v6), (7, .int v7), (8, .int v8), (9, .int 0)]) ⟨rfl, rfl, rfl, rfl, rfl, rfl, rfl, rfl, rfl, trivial⟩ ?_
                      exact ih _ _ _ _ _ _ _ _ _ _ _ h hx0
                    ·
                      rw [if_pos hb153] at h
                      refine zr_iconstv (v := 1) F zd_MReader_numbers_184 (by decide) ?_
                      refine zr_goto F 189 zd_MReader_numbers_185 (by decide) ?_
                      refine zr_pcn 189 rfl ?_
                      refine zr_istore F zd_MReader_numbers_189 (by decide) ?_
                      refine zr_iload F zd_MReader_numbers_191 rfl ?_
                      refine zr_if_eq F 39 zd_MReader_numbers_193 (by decide) (fun hq => absurd hq (by decide)) (fun _ => ?_)
                      refine zr_aload_n F zd_MReader_numbers_196 rfl ?_
                      refine zr_dup F zd_MReader_numbers_197 rfl ?_
                      obtain ⟨le155, hs154, h⟩ := zoS_s h
                      refine zr_get F 14 3 zd_MReader_numbers_198 (zW_o hs154 (by decide)) rfl (by decide) zw_1507 rfl (by rfl) ?_
                      refine zr_iconstv (v := 1) F zd_MReader_numbers_201 (by decide) ?_
                      refine zr_iadd F zd_MReader_numbers_202 ?_
                      refine zr_pcn 203 rfl ?_
                      obtain ⟨x156, ex156, h⟩ := zoL_s h
                      rw [← ex156]
                      obtain ⟨le158, hs157, h⟩ := zoS_s h
                      refine zr_put F 14 3 zd_MReader_numbers_203 (zW_o hs157 (by decide)) rfl (by decide) zw_1507 rfl rfl rfl rfl (by exact (Nat.le_of_ble_eq_true rfl)) ?_
                      obtain ⟨mm159, emm159, h⟩ := zoL_s h
                      refine zr_norm (zW tA b sh mm159) _ (by rw [emm159]; exact zW_pI (v := x156) hs157 (by decide) (zf_I_14_3 b _ _ _)) rfl ?_
                      refine zr_goto F 39 zd_MReader_numbers_206 (by decide) ?_
                      refine zr_loc (L' := [(0, .ref (b + v0)), (2, .ref (b + v2)), (3, .int v3), (4, .int v4), (5, .int v5), (6, .int v6), (7, .int v7), (8, .int v8), (9, .int 1)]) ⟨rfl, rfl, rfl, rfl, rfl, rfl, rfl, rfl, rfl, trivial⟩ ?_
                      exact ih _ _ _ _ _ _ _ _ _ _ _ h hx0
          ·
            rw [if_pos hb26] at h
            refine zr_aload_n F zd_MReader_numbers_83 rfl ?_
            refine zr_iconstv (v := 3) F zd_MReader_numbers_84 (by decide) ?_
            refine zr_aload_n F zd_MReader_numbers_85 rfl ?_
            obtain ⟨le161, hs160, h⟩ := zoS_s h
            refine zr_get F 14 6 zd_MReader_numbers_86 (zW_o hs160 (by decide)) rfl (by decide) zw_1512 rfl (by rfl) ?_
            obtain ⟨le163, hs162, h⟩ := zoS_s h
            obtain ⟨p164, ep164, h⟩ := zoB_s h
            refine zr_callV0 F (k_MReader_fail l D tA b sh _ ep164) zd_MReader_numbers_89 (zW_o hs162 (by decide)) rfl zs_MReader_38 rfl zq_MReader_fail rfl rfl ⟨(Nat.le_of_ble_eq_true rfl), (Nat.le_of_ble_eq_true rfl)⟩ (Nat.le_of_ble_eq_true rfl) ⟨(Nat.le_of_ble_eq_true rfl), (Nat.le_of_ble_eq_true rfl)⟩ ?_
            refine zr_goto F 168 zd_MReader_numbers_92 (by decide) ?_
            refine zr_pcn 168 rfl ?_
            refine zr_aload_n F zd_MReader_numbers_168 rfl ?_
            obtain ⟨le166, hs165, h⟩ := zoS_s h
            refine zr_get F 14 4 zd_MReader_numbers_169 (zW_o hs165 (by decide)) rfl (by decide) zw_1508 rfl (by rfl) ?_
            refine zr_if_ne F 188 zd_MReader_numbers_172 (by decide) (fun hb167 => ?_) (fun hb167 => ?_)
            ·
              rw [if_neg hb167] at h
              refine zr_iconstv (v := 0) F zd_MReader_numbers_188 (by decide) ?_
              refine zr_istore F zd_MReader_numbers_189 (by decide) ?_
              refine zr_iload F zd_MReader_numbers_191 rfl ?_
              refine zr_if_eq F 39 zd_MReader_numbers_193 (by decide) (fun _ => ?_) (fun hq => absurd hq (by decide))
              refine zr_loc (L' := [(0, .ref (b + v0)), (2, .ref (b + v2)), (3, .int v3), (4, .int v4), (5, .int v5), (6, .int v6), (7, .int v7), (8, .int v8), (9, .int 0)]) ⟨rfl, rfl, rfl, rfl, rfl, rfl, rfl, rfl, rfl, trivial⟩ ?_
              exact ih _ _ _ _ _ _ _ _ _ _ _ h hx0
            ·
              rw [if_pos hb167] at h
              refine zr_aload_n F zd_MReader_numbers_175 rfl ?_
              refine zr_pcn 176 rfl ?_
              obtain ⟨le169, hs168, h⟩ := zoS_s h
              obtain ⟨p170, ep170, h⟩ := zoB_s h
              refine zr_callV1 F (k_MReader_next l D tA b sh _ ep170) zd_MReader_numbers_176 (zW_o hs168 (by decide)) rfl zs_MReader_34 rfl zq_MReader_next rfl rfl ⟨(Nat.le_of_ble_eq_true rfl), (Nat.le_of_ble_eq_true rfl)⟩ (Nat.le_of_ble_eq_true rfl) ⟨(Nat.le_of_ble_eq_true rfl), (Nat.le_of_ble_eq_true rfl)⟩ ?_
              refine zr_bipushv (v := 44) F zd_MReader_numbers_179 (by decide) ?_
              refine zr_icmp_ne F 188 zd_MReader_numbers_181 (by decide) (fun hb171 => ?_) (fun hb171 => ?_)
              ·
                rw [if_neg hb171] at h
                refine zr_iconstv (v := 0) F zd_MReader_numbers_188 (by decide) ?_
                refine zr_istore F zd_MReader_numbers_189 (by decide) ?_
                refine zr_iload F zd_MReader_numbers_191 rfl ?_
                refine zr_if_eq F 39 zd_MReader_numbers_193 (by decide) (fun _ => ?_) (fun hq => absurd hq (by decide))
                refine zr_loc (L' := [(0, .ref (b + v0)), (2, .ref (b + v2)), (3, .int v3), (4, .int v4), (5, .int v5), (6, .int v6), (7, .int v7), (8, .int v8), (9, .int 0)]) ⟨rfl, rfl, rfl, rfl, rfl, rfl, rfl, rfl, rfl, trivial⟩ ?_
                exact ih _ _ _ _ _ _ _ _ _ _ _ h hx0
              ·
                rw [if_pos hb171] at h
                refine zr_iconstv (v := 1) F zd_MReader_numbers_184 (by decide) ?_
                refine zr_pcn 185 rfl ?_
                refine zr_goto F 189 zd_MReader_numbers_185 (by decide) ?_
                refine zr_istore F zd_MReader_numbers_189 (by decide) ?_
                refine zr_iload F zd_MReader_numbers_191 rfl ?_
                refine zr_if_eq F 39 zd_MReader_numbers_193 (by decide) (fun hq => absurd hq (by decide)) (fun _ => ?_)
                refine zr_aload_n F zd_MReader_numbers_196 rfl ?_
                refine zr_dup F zd_MReader_numbers_197 rfl ?_
                obtain ⟨le173, hs172, h⟩ := zoS_s h
                refine zr_get F 14 3 zd_MReader_numbers_198 (zW_o hs172 (by decide)) rfl (by decide) zw_1507 rfl (by rfl) ?_
                refine zr_iconstv (v := 1) F zd_MReader_numbers_201 (by decide) ?_
                refine zr_pcn 202 rfl ?_
                refine zr_iadd F zd_MReader_numbers_202 ?_
                obtain ⟨x174, ex174, h⟩ := zoL_s h
                rw [← ex174]
                obtain ⟨le176, hs175, h⟩ := zoS_s h
                refine zr_put F 14 3 zd_MReader_numbers_203 (zW_o hs175 (by decide)) rfl (by decide) zw_1507 rfl rfl rfl rfl (by exact (Nat.le_of_ble_eq_true rfl)) ?_
                obtain ⟨mm177, emm177, h⟩ := zoL_s h
                refine zr_norm (zW tA b sh mm177) _ (by rw [emm177]; exact zW_pI (v := x174) hs175 (by decide) (zf_I_14_3 b _ _ _)) rfl ?_
                refine zr_goto F 39 zd_MReader_numbers_206 (by decide) ?_
                refine zr_loc (L' := [(0, .ref (b + v0)), (2, .ref (b + v2)), (3, .int v3), (4, .int v4), (5, .int v5), (6, .int v6), (7, .int v7), (8, .int v8), (9, .int 1)]) ⟨rfl, rfl, rfl, rfl, rfl, rfl, rfl, rfl, rfl, trivial⟩ ?_
                exact ih _ _ _ _ _ _ _ _ _ _ _ h hx0
        ·
          rw [if_pos hb20] at h
          refine zr_aload_n F zd_MReader_numbers_58 rfl ?_
          refine zr_iconstv (v := 1) F zd_MReader_numbers_59 (by decide) ?_
          refine zr_aload_n F zd_MReader_numbers_60 rfl ?_
          obtain ⟨le179, hs178, h⟩ := zoS_s h
          refine zr_get F 14 3 zd_MReader_numbers_61 (zW_o hs178 (by decide)) rfl (by decide) zw_1507 rfl (by rfl) ?_
          obtain ⟨le181, hs180, h⟩ := zoS_s h
          obtain ⟨p182, ep182, h⟩ := zoB_s h
          refine zr_callV0 F (k_MReader_fail l D tA b sh _ ep182) zd_MReader_numbers_64 (zW_o hs180 (by decide)) rfl zs_MReader_38 rfl zq_MReader_fail rfl rfl ⟨(Nat.le_of_ble_eq_true rfl), (Nat.le_of_ble_eq_true rfl)⟩ (Nat.le_of_ble_eq_true rfl) ⟨(Nat.le_of_ble_eq_true rfl), (Nat.le_of_ble_eq_true rfl)⟩ ?_
          refine zr_pcn 67 rfl ?_
          refine zr_goto F 168 zd_MReader_numbers_67 (by decide) ?_
          refine zr_aload_n F zd_MReader_numbers_168 rfl ?_
          obtain ⟨le184, hs183, h⟩ := zoS_s h
          refine zr_get F 14 4 zd_MReader_numbers_169 (zW_o hs183 (by decide)) rfl (by decide) zw_1508 rfl (by rfl) ?_
          refine zr_if_ne F 188 zd_MReader_numbers_172 (by decide) (fun hb185 => ?_) (fun hb185 => ?_)
          ·
            rw [if_neg hb185] at h
            refine zr_iconstv (v := 0) F zd_MReader_numbers_188 (by decide) ?_
            refine zr_istore F zd_MReader_numbers_189 (by decide) ?_
            refine zr_iload F zd_MReader_numbers_191 rfl ?_
            refine zr_if_eq F 39 zd_MReader_numbers_193 (by decide) (fun _ => ?_) (fun hq => absurd hq (by decide))
            refine zr_loc (L' := [(0, .ref (b + v0)), (2, .ref (b + v2)), (3, .int v3), (4, .int v4), (5, .int v5), (6, .int v6), (7, .int v7), (8, .int v8), (9, .int 0)]) ⟨rfl, rfl, rfl, rfl, rfl, rfl, rfl, rfl, rfl, trivial⟩ ?_
            exact ih _ _ _ _ _ _ _ _ _ _ _ h hx0
          ·
            rw [if_pos hb185] at h
            refine zr_pcn 175 rfl ?_
            refine zr_aload_n F zd_MReader_numbers_175 rfl ?_
            obtain ⟨le187, hs186, h⟩ := zoS_s h
            obtain ⟨p188, ep188, h⟩ := zoB_s h
            refine zr_callV1 F (k_MReader_next l D tA b sh _ ep188) zd_MReader_numbers_176 (zW_o hs186 (by decide)) rfl zs_MReader_34 rfl zq_MReader_next rfl rfl ⟨(Nat.le_of_ble_eq_true rfl), (Nat.le_of_ble_eq_true rfl)⟩ (Nat.le_of_ble_eq_true rfl) ⟨(Nat.le_of_ble_eq_true rfl), (Nat.le_of_ble_eq_true rfl)⟩ ?_
            refine zr_bipushv (v := 44) F zd_MReader_numbers_179 (by decide) ?_
            refine zr_icmp_ne F 188 zd_MReader_numbers_181 (by decide) (fun hb189 => ?_) (fun hb189 => ?_)
            ·
              rw [if_neg hb189] at h
              refine zr_iconstv (v := 0) F zd_MReader_numbers_188 (by decide) ?_
              refine zr_istore F zd_MReader_numbers_189 (by decide) ?_
              refine zr_iload F zd_MReader_numbers_191 rfl ?_
              refine zr_if_eq F 39 zd_MReader_numbers_193 (by decide) (fun _ => ?_) (fun hq => absurd hq (by decide))
              refine zr_loc (L' := [(0, .ref (b + v0)), (2, .ref (b + v2)), (3, .int v3), (4, .int v4), (5, .int v5), (6, .int v6), (7, .int v7), (8, .int v8), (9, .int 0)]) ⟨rfl, rfl, rfl, rfl, rfl, rfl, rfl, rfl, rfl, trivial⟩ ?_
              exact ih _ _ _ _ _ _ _ _ _ _ _ h hx0
            ·
              rw [if_pos hb189] at h
              refine zr_pcn 184 rfl ?_
              refine zr_iconstv (v := 1) F zd_MReader_numbers_184 (by decide) ?_
              refine zr_goto F 189 zd_MReader_numbers_185 (by decide) ?_
              refine zr_istore F zd_MReader_numbers_189 (by decide) ?_
              refine zr_iload F zd_MReader_numbers_191 rfl ?_
              refine zr_if_eq F 39 zd_MReader_numbers_193 (by decide) (fun hq => absurd hq (by decide)) (fun _ => ?_)
              refine zr_aload_n F zd_MReader_numbers_196 rfl ?_
              refine zr_dup F zd_MReader_numbers_197 rfl ?_
              obtain ⟨le191, hs190, h⟩ := zoS_s h
              refine zr_get F 14 3 zd_MReader_numbers_198 (zW_o hs190 (by decide)) rfl (by decide) zw_1507 rfl (by rfl) ?_
              refine zr_pcn 201 rfl ?_
              refine zr_iconstv (v := 1) F zd_MReader_numbers_201 (by decide) ?_
              refine zr_iadd F zd_MReader_numbers_202 ?_
              obtain ⟨x192, ex192, h⟩ := zoL_s h
              rw [← ex192]
              obtain ⟨le194, hs193, h⟩ := zoS_s h
              refine zr_put F 14 3 zd_MReader_numbers_203 (zW_o hs193 (by decide)) rfl (by decide) zw_1507 rfl rfl rfl rfl (by exact (Nat.le_of_ble_eq_true rfl)) ?_
              obtain ⟨mm195, emm195, h⟩ := zoL_s h
              refine zr_norm (zW tA b sh mm195) _ (by rw [emm195]; exact zW_pI (v := x192) hs193 (by decide) (zf_I_14_3 b _ _ _)) rfl ?_
              refine zr_goto F 39 zd_MReader_numbers_206 (by decide) ?_
              refine zr_loc (L' := [(0, .ref (b + v0)), (2, .ref (b + v2)), (3, .int v3), (4, .int v4), (5, .int v5), (6, .int v6), (7, .int v7), (8, .int v8), (9, .int 1)]) ⟨rfl, rfl, rfl, rfl, rfl, rfl, rfl, rfl, rfl, trivial⟩ ?_
              exact ih _ _ _ _ _ _ _ _ _ _ _ h hx0
def F_MReader_numbers (sh : zSh) (mm : zMem) (o : Nat) (x0_ : Nat) (x1_ : Nat) (x2_ : Int32) (x3_ : Int32) (x4_ : Int32) (x5_ : Int32) (x6_ : Int32) (x7_ : Int32) : Option zMem := zoS (sh o) 14 (fun le2 => Option.bind (F_MReader_name sh mm o x0_) (fun p3 => zoS (sh o) 14 (fun le5 => Option.bind (F_MReader_sign sh p3 o 91) (fun p6 => zoS (sh o) 14 (fun le8 => zoL (mI p6 o 9 0) (fun mm9 => zoS (sh o) 14 (fun le11 => (if (mm9.1 o 4) = 0 then zoS (sh o) 14 (fun le237 => Option.bind (F_MReader_next sh mm9 o) (fun p238 => (if p238.1 = 93 then Option.bind (L_MReader_numbers_39 sh zfuel o x1_ x2_ x3_ x4_ x5_ x6_ x7_ 0 (p238.2)) (fun q240 => zoS (sh (q240.1)) 14 (fun le242 => (if ((q240.2.2.2.2.2.2.2.2.2).1 (q240.1) 4) = 0 then zoS (sh (q240.1)) 14 (fun le248 => Option.bind (F_MReader_next sh (q240.2.2.2.2.2.2.2.2.2) (q240.1)) (fun p249 => (if p249.1 = 93 then zoS (sh (q240.1)) 14 (fun le255 => (if ((p249.2).1 (q240.1) 9) < q240.2.2.2.2.1 then zoS (sh (q240.1)) 14 (fun le258 => zoS (sh (q240.1)) 14 (fun le260 => Option.bind (F_MReader_fail sh (p249.2) (q240.1) 3 ((p249.2).1 (q240.1) 3)) (fun p261 => zoS (sh (q240.1)) 14 (fun le263 => Option.bind (F_MReader_sign sh p261 (q240.1) 93) (fun p264 => some p264))))) else zoS (sh (q240.1)) 14 (fun le266 => (if q240.2.2.2.2.2.2.1 = 0 then none else (if (((p249.2).1 (q240.1) 9) - ((p249.2).1 (q240.1) 9) / q240.2.2.2.2.2.2.1 * q240.2.2.2.2.2.2.1) = 0 then zoS (sh (q240.1)) 14 (fun le270 => Option.bind (F_MReader_sign sh (p249.2) (q240.1) 93) (fun p271 => some p271)) else zoS (sh (q240.1)) 14 (fun le273 => zoS (sh (q240.1)) 14 (fun le275 => Option.bind (F_MReader_fail sh (p249.2) (q240.1) 3 ((p249.2).1 (q240.1) 3)) (fun p276 => zoS (sh (q240.1)) 14 (fun le278 => Option.bind (F_MReader_sign sh p276 (q240.1) 93) (fun p279 => some p279)))))))))) else zoS (sh (q240.1)) 14 (fun le252 => Option.bind (F_MReader_sign sh (p249.2) (q240.1) 93) (fun p253 => some p253))))) else zoS (sh (q240.1)) 14 (fun le245 => Option.bind (F_MReader_sign sh (q240.2.2.2.2.2.2.2.2.2) (q240.1) 93) (fun p246 => some p246))))) else Option.bind (L_MReader_numbers_39 sh zfuel o x1_ x2_ x3_ x4_ x5_ x6_ x7_ 1 (p238.2)) (fun q280 => zoS (sh (q280.1)) 14 (fun le282 => (if ((q280.2.2.2.2.2.2.2.2.2).1 (q280.1) 4) = 0 then zoS (sh (q280.1)) 14 (fun le288 => Option.bind (F_MReader_next sh (q280.2.2.2.2.2.2.2.2.2) (q280.1)) (fun p289 => (if p289.1 = 93 then zoS (sh (q280.1)) 14 (fun le295 => (if ((p289.2).1 (q280.1) 9) < q280.2.2.2.2.1 then zoS (sh (q280.1)) 14 (fun le298 => zoS (sh (q280.1)) 14 (fun le300 => Option.bind (F_MReader_fail sh (p289.2) (q280.1) 3 ((p289.2).1 (q280.1) 3)) (fun p301 => zoS (sh (q280.1)) 14 (fun le303 => Option.bind (F_MReader_sign sh p301 (q280.1) 93) (fun p304 => some p304))))) else zoS (sh (q280.1)) 14 (fun le306 => (if q280.2.2.2.2.2.2.1 = 0 then none else (if (((p289.2).1 (q280.1) 9) - ((p289.2).1 (q280.1) 9) / q280.2.2.2.2.2.2.1 * q280.2.2.2.2.2.2.1) = 0 then zoS (sh (q280.1)) 14 (fun le310 => Option.bind (F_MReader_sign sh (p289.2) (q280.1) 93) (fun p311 => some p311)) else zoS (sh (q280.1)) 14 (fun le313 => zoS (sh (q280.1)) 14 (fun le315 => Option.bind (F_MReader_fail sh (p289.2) (q280.1) 3 ((p289.2).1 (q280.1) 3)) (fun p316 => zoS (sh (q280.1)) 14 (fun le318 => Option.bind (F_MReader_sign sh p316 (q280.1) 93) (fun p319 => some p319)))))))))) else zoS (sh (q280.1)) 14 (fun le292 => Option.bind (F_MReader_sign sh (p289.2) (q280.1) 93) (fun p293 => some p293))))) else zoS (sh (q280.1)) 14 (fun le285 => Option.bind (F_MReader_sign sh (q280.2.2.2.2.2.2.2.2.2) (q280.1) 93) (fun p286 => some p286)))))))) else Option.bind (L_MReader_numbers_39 sh zfuel o x1_ x2_ x3_ x4_ x5_ x6_ x7_ 0 mm9) (fun q196 => zoS (sh (q196.1)) 14 (fun le198 => (if ((q196.2.2.2.2.2.2.2.2.2).1 (q196.1) 4) = 0 then zoS (sh (q196.1)) 14 (fun le204 => Option.bind (F_MReader_next sh (q196.2.2.2.2.2.2.2.2.2) (q196.1)) (fun p205 => (if p205.1 = 93 then zoS (sh (q196.1)) 14 (fun le211 => (if ((p205.2).1 (q196.1) 9) < q196.2.2.2.2.1 then zoS (sh (q196.1)) 14 (fun le214 => zoS (sh (q196.1)) 14 (fun le216 => Option.bind (F_MReader_fail sh (p205.2) (q196.1) 3 ((p205.2).1 (q196.1) 3)) (fun p217 => zoS (sh (q196.1)) 14 (fun le219 => Option.bind (F_MReader_sign sh p217 (q196.1) 93) (fun p220 => some p220))))) else zoS (sh (q196.1)) 14 (fun le222 => (if q196.2.2.2.2.2.2.1 = 0 then none else (if (((p205.2).1 (q196.1) 9) - ((p205.2).1 (q196.1) 9) / q196.2.2.2.2.2.2.1 * q196.2.2.2.2.2.2.1) = 0 then zoS (sh (q196.1)) 14 (fun le226 => Option.bind (F_MReader_sign sh (p205.2) (q196.1) 93) (fun p227 => some p227)) else zoS (sh (q196.1)) 14 (fun le229 => zoS (sh (q196.1)) 14 (fun le231 => Option.bind (F_MReader_fail sh (p205.2) (q196.1) 3 ((p205.2).1 (q196.1) 3)) (fun p232 => zoS (sh (q196.1)) 14 (fun le234 => Option.bind (F_MReader_sign sh p232 (q196.1) 93) (fun p235 => some p235)))))))))) else zoS (sh (q196.1)) 14 (fun le208 => Option.bind (F_MReader_sign sh (p205.2) (q196.1) 93) (fun p209 => some p209))))) else zoS (sh (q196.1)) 14 (fun le201 => Option.bind (F_MReader_sign sh (q196.2.2.2.2.2.2.2.2.2) (q196.1) 93) (fun p202 => some p202)))))))))))))
set_option maxHeartbeats 4000000 in
set_option maxRecDepth 100000 in
theorem k_MReader_numbers (l : Launch) (D : va_G) (tA : Nat → ClassId) (b : Nat) (sh : zSh) (n : Nat) {mm : zMem} {o : Nat} {x0_ : Nat} {x1_ : Nat} {x2_ : Int32} {x3_ : Int32} {x4_ : Int32} {x5_ : Int32} {x6_ : Int32} {x7_ : Int32} {r : zMem} (h : F_MReader_numbers sh mm o x0_ x1_ x2_ x3_ x4_ x5_ x6_ x7_ = some r) : zM l D tA b zy_MReader_numbers zb_MReader_numbers 10 none 6 128 0 0 [.ref (b + o), .ref (D.2 1000 x0_), .ref (b + x1_), .int x2_, .int x3_, .int x4_, .int x5_, .int x6_, .int x7_] (zW tA b sh mm) n (zE none (zW tA b sh r) n) := by
  unfold F_MReader_numbers at h
  refine zM_of (own := "OrreryBoxModel$Reader") (plainFor_of_name (by decide)) rfl (Nat.le_of_ble_eq_true rfl) (fun p e s m below meth c F hr hin hH => ?_)
  refine zr_aload_n F zd_MReader_numbers_0 rfl ?_
  refine zr_aload_n F zd_MReader_numbers_1 rfl ?_
  obtain ⟨le2, hs1, h⟩ := zoS_s h
  obtain ⟨p3, ep3, h⟩ := zoB_s h
  refine zr_callV0 F (k_MReader_name l D tA b sh _ ep3) zd_MReader_numbers_2 (zW_o hs1 (by decide)) rfl zs_MReader_83 rfl zq_MReader_name rfl rfl ⟨(Nat.le_of_ble_eq_true rfl), (Nat.le_of_ble_eq_true rfl)⟩ (Nat.le_of_ble_eq_true rfl) ⟨(Nat.le_of_ble_eq_true rfl), (Nat.le_of_ble_eq_true rfl)⟩ ?_
  refine zr_aload_n F zd_MReader_numbers_5 rfl ?_
  refine zr_bipushv (v := 91) F zd_MReader_numbers_6 (by decide) ?_
  obtain ⟨le5, hs4, h⟩ := zoS_s h
  obtain ⟨p6, ep6, h⟩ := zoB_s h
  refine zr_callV0 F (k_MReader_sign l D tA b sh _ ep6) zd_MReader_numbers_8 (zW_o hs4 (by decide)) rfl zs_MReader_55 rfl zq_MReader_sign rfl rfl ⟨(Nat.le_of_ble_eq_true rfl), (Nat.le_of_ble_eq_true rfl)⟩ (Nat.le_of_ble_eq_true rfl) ⟨(Nat.le_of_ble_eq_true rfl), (Nat.le_of_ble_eq_true rfl)⟩ ?_
  refine zr_aload_n F zd_MReader_numbers_11 rfl ?_
  refine zr_pcn 12 rfl ?_
  refine zr_iconstv (v := 0) F zd_MReader_numbers_12 (by decide) ?_
  obtain ⟨le8, hs7, h⟩ := zoS_s h
  refine zr_put F 14 9 zd_MReader_numbers_13 (zW_o hs7 (by decide)) rfl (by decide) zw_1515 rfl rfl rfl rfl (by exact (Nat.le_of_ble_eq_true rfl)) ?_
  obtain ⟨mm9, emm9, h⟩ := zoL_s h
  refine zr_norm (zW tA b sh mm9) _ (by rw [emm9]; exact zW_pI (v := 0) hs7 (by decide) (zf_I_14_9 b _ _ _)) rfl ?_
  refine zr_aload_n F zd_MReader_numbers_16 rfl ?_
  obtain ⟨le11, hs10, h⟩ := zoS_s h
  refine zr_get F 14 4 zd_MReader_numbers_17 (zW_o hs10 (by decide)) rfl (by decide) zw_1508 rfl (by rfl) ?_
  refine zr_if_ne F 36 zd_MReader_numbers_20 (by decide) (fun hb12 => ?_) (fun hb12 => ?_)
  ·
    rw [if_neg hb12] at h
    refine zr_iconstv (v := 0) F zd_MReader_numbers_36 (by decide) ?_
    refine zr_istore F zd_MReader_numbers_37 (by decide) ?_
    obtain ⟨q196, eq196, h⟩ := zoB_s h
    refine zr_loc (L' := [(0, .ref (b + o)), (2, .ref (b + x1_)), (3, .int x2_), (4, .int x3_), (5, .int x4_), (6, .int x5_), (7, .int x6_), (8, .int x7_), (9, .int 0)]) ⟨rfl, rfl, rfl, rfl, rfl, rfl, rfl, rfl, rfl, trivial⟩ ?_
    refine lp_MReader_numbers_39 F _ _ _ _ _ _ _ _ _ _ _ _ eq196 ?_
    ·
      refine zr_aload_n F zd_MReader_numbers_209 rfl ?_
      obtain ⟨le198, hs197, h⟩ := zoS_s h
      refine zr_get F 14 4 zd_MReader_numbers_210 (zW_o hs197 (by decide)) rfl (by decide) zw_1508 rfl (by rfl) ?_
      refine zr_if_ne F 253 zd_MReader_numbers_213 (by decide) (fun hb199 => ?_) (fun hb199 => ?_)
      ·
        rw [if_neg hb199] at h
        refine zr_aload_n F zd_MReader_numbers_253 rfl ?_
        refine zr_pcn 254 rfl ?_
        refine zr_bipushv (v := 93) F zd_MReader_numbers_254 (by decide) ?_
        obtain ⟨le201, hs200, h⟩ := zoS_s h
        obtain ⟨p202, ep202, h⟩ := zoB_s h
        refine zr_callV0 F (k_MReader_sign l D tA b sh _ ep202) zd_MReader_numbers_256 (zW_o hs200 (by decide)) rfl zs_MReader_55 rfl zq_MReader_sign rfl rfl ⟨(Nat.le_of_ble_eq_true rfl), (Nat.le_of_ble_eq_true rfl)⟩ (Nat.le_of_ble_eq_true rfl) ⟨(Nat.le_of_ble_eq_true rfl), (Nat.le_of_ble_eq_true rfl)⟩ ?_
        obtain rfl := Option.some.inj h
        exact zr_vret F hr zd_MReader_numbers_259 (Nat.le_of_ble_eq_true rfl) (Nat.le_of_ble_eq_true rfl) ⟨rfl, rfl, rfl⟩
      ·
        rw [if_pos hb199] at h
        refine zr_aload_n F zd_MReader_numbers_216 rfl ?_
        obtain ⟨le204, hs203, h⟩ := zoS_s h
        obtain ⟨p205, ep205, h⟩ := zoB_s h
        refine zr_callV1 F (k_MReader_next l D tA b sh _ ep205) zd_MReader_numbers_217 (zW_o hs203 (by decide)) rfl zs_MReader_34 rfl zq_MReader_next rfl rfl ⟨(Nat.le_of_ble_eq_true rfl), (Nat.le_of_ble_eq_true rfl)⟩ (Nat.le_of_ble_eq_true rfl) ⟨(Nat.le_of_ble_eq_true rfl), (Nat.le_of_ble_eq_true rfl)⟩ ?_
        refine zr_bipushv (v := 93) F zd_MReader_numbers_220 (by decide) ?_
        refine zr_icmp_ne F 253 zd_MReader_numbers_222 (by decide) (fun hb206 => ?_) (fun hb206 => ?_)
        ·
          rw [if_neg hb206] at h
          refine zr_aload_n F zd_MReader_numbers_253 rfl ?_
          refine zr_pcn 254 rfl ?_
          refine zr_bipushv (v := 93) F zd_MReader_numbers_254 (by decide) ?_
          obtain ⟨le208, hs207, h⟩ := zoS_s h
          obtain ⟨p209, ep209, h⟩ := zoB_s h
          refine zr_callV0 F (k_MReader_sign l D tA b sh _ ep209) zd_MReader_numbers_256 (zW_o hs207 (by decide)) rfl zs_MReader_55 rfl zq_MReader_sign rfl rfl ⟨(Nat.le_of_ble_eq_true rfl), (Nat.le_of_ble_eq_true rfl)⟩ (Nat.le_of_ble_eq_true rfl) ⟨(Nat.le_of_ble_eq_true rfl), (Nat.le_of_ble_eq_true rfl)⟩ ?_
          obtain rfl := Option.some.inj h
          exact zr_vret F hr zd_MReader_numbers_259 (Nat.le_of_ble_eq_true rfl) (Nat.le_of_ble_eq_true rfl) ⟨rfl, rfl, rfl⟩
        ·
          rw [if_pos hb206] at h
          refine zr_aload_n F zd_MReader_numbers_225 rfl ?_
          obtain ⟨le211, hs210, h⟩ := zoS_s h
          refine zr_get F 14 9 zd_MReader_numbers_226 (zW_o hs210 (by decide)) rfl (by decide) zw_1515 rfl (by rfl) ?_
          refine zr_iload F zd_MReader_numbers_229 rfl ?_
          refine zr_icmp_lt F 244 zd_MReader_numbers_231 (by decide) (fun hb212 => ?_) (fun hb212 => ?_)
          ·
            rw [if_pos hb212] at h
            refine zr_aload_n F zd_MReader_numbers_244 rfl ?_
            refine zr_pcn 245 rfl ?_
            refine zr_iconstv (v := 3) F zd_MReader_numbers_245 (by decide) ?_
            refine zr_aload_n F zd_MReader_numbers_246 rfl ?_
            obtain ⟨le214, hs213, h⟩ := zoS_s h
            refine zr_get F 14 3 zd_MReader_numbers_247 (zW_o hs213 (by decide)) rfl (by decide) zw_1507 rfl (by rfl) ?_
            obtain ⟨le216, hs215, h⟩ := zoS_s h
            obtain ⟨p217, ep217, h⟩ := zoB_s h
            refine zr_callV0 F (k_MReader_fail l D tA b sh _ ep217) zd_MReader_numbers_250 (zW_o hs215 (by decide)) rfl zs_MReader_38 rfl zq_MReader_fail rfl rfl ⟨(Nat.le_of_ble_eq_true rfl), (Nat.le_of_ble_eq_true rfl)⟩ (Nat.le_of_ble_eq_true rfl) ⟨(Nat.le_of_ble_eq_true rfl), (Nat.le_of_ble_eq_true rfl)⟩ ?_
            refine zr_aload_n F zd_MReader_numbers_253 rfl ?_
            refine zr_bipushv (v := 93) F zd_MReader_numbers_254 (by decide) ?_
            obtain ⟨le219, hs218, h⟩ := zoS_s h
            obtain ⟨p220, ep220, h⟩ := zoB_s h
            refine zr_callV0 F (k_MReader_sign l D tA b sh _ ep220) zd_MReader_numbers_256 (zW_o hs218 (by decide)) rfl zs_MReader_55 rfl zq_MReader_sign rfl rfl ⟨(Nat.le_of_ble_eq_true rfl), (Nat.le_of_ble_eq_true rfl)⟩ (Nat.le_of_ble_eq_true rfl) ⟨(Nat.le_of_ble_eq_true rfl), (Nat.le_of_ble_eq_true rfl)⟩ ?_
            obtain rfl := Option.some.inj h
            exact zr_vret F hr zd_MReader_numbers_259 (Nat.le_of_ble_eq_true rfl) (Nat.le_of_ble_eq_true rfl) ⟨rfl, rfl, rfl⟩
          ·
            rw [if_neg hb212] at h
            refine zr_pcn 234 rfl ?_
            refine zr_aload_n F zd_MReader_numbers_234 rfl ?_
            obtain ⟨le222, hs221, h⟩ := zoS_s h
            refine zr_get F 14 9 zd_MReader_numbers_235 (zW_o hs221 (by decide)) rfl (by decide) zw_1515 rfl (by rfl) ?_
            refine zr_iload F zd_MReader_numbers_238 rfl ?_
            obtain ⟨hn223, h⟩ := zoI_s h
            refine zr_irem F zd_MReader_numbers_240 hn223 ?_
            refine zr_if_eq F 253 zd_MReader_numbers_241 (by decide) (fun hb224 => ?_) (fun hb224 => ?_)
            ·
              rw [if_pos hb224] at h
              refine zr_aload_n F zd_MReader_numbers_253 rfl ?_
              refine zr_bipushv (v := 93) F zd_MReader_numbers_254 (by decide) ?_
              obtain ⟨le226, hs225, h⟩ := zoS_s h
              obtain ⟨p227, ep227, h⟩ := zoB_s h
              refine zr_callV0 F (k_MReader_sign l D tA b sh _ ep227) zd_MReader_numbers_256 (zW_o hs225 (by decide)) rfl zs_MReader_55 rfl zq_MReader_sign rfl rfl ⟨(Nat.le_of_ble_eq_true rfl), (Nat.le_of_ble_eq_true rfl)⟩ (Nat.le_of_ble_eq_true rfl) ⟨(Nat.le_of_ble_eq_true rfl), (Nat.le_of_ble_eq_true rfl)⟩ ?_
              refine zr_pcn 259 rfl ?_
              obtain rfl := Option.some.inj h
              exact zr_vret F hr zd_MReader_numbers_259 (Nat.le_of_ble_eq_true rfl) (Nat.le_of_ble_eq_true rfl) ⟨rfl, rfl, rfl⟩
            ·
              rw [if_neg hb224] at h
              refine zr_aload_n F zd_MReader_numbers_244 rfl ?_
              refine zr_iconstv (v := 3) F zd_MReader_numbers_245 (by decide) ?_
              refine zr_aload_n F zd_MReader_numbers_246 rfl ?_
              obtain ⟨le229, hs228, h⟩ := zoS_s h
              refine zr_get F 14 3 zd_MReader_numbers_247 (zW_o hs228 (by decide)) rfl (by decide) zw_1507 rfl (by rfl) ?_
              obtain ⟨le231, hs230, h⟩ := zoS_s h
              obtain ⟨p232, ep232, h⟩ := zoB_s h
              refine zr_callV0 F (k_MReader_fail l D tA b sh _ ep232) zd_MReader_numbers_250 (zW_o hs230 (by decide)) rfl zs_MReader_38 rfl zq_MReader_fail rfl rfl ⟨(Nat.le_of_ble_eq_true rfl), (Nat.le_of_ble_eq_true rfl)⟩ (Nat.le_of_ble_eq_true rfl) ⟨(Nat.le_of_ble_eq_true rfl), (Nat.le_of_ble_eq_true rfl)⟩ ?_
              refine zr_aload_n F zd_MReader_numbers_253 rfl ?_
              refine zr_bipushv (v := 93) F zd_MReader_numbers_254 (by decide) ?_
              refine zr_pcn 256 rfl ?_
              obtain ⟨le234, hs233, h⟩ := zoS_s h
              obtain ⟨p235, ep235, h⟩ := zoB_s h
              refine zr_callV0 F (k_MReader_sign l D tA b sh _ ep235) zd_MReader_numbers_256 (zW_o hs233 (by decide)) rfl zs_MReader_55 rfl zq_MReader_sign rfl rfl ⟨(Nat.le_of_ble_eq_true rfl), (Nat.le_of_ble_eq_true rfl)⟩ (Nat.le_of_ble_eq_true rfl) ⟨(Nat.le_of_ble_eq_true rfl), (Nat.le_of_ble_eq_true rfl)⟩ ?_
              obtain rfl := Option.some.inj h
              exact zr_vret F hr zd_MReader_numbers_259 (Nat.le_of_ble_eq_true rfl) (Nat.le_of_ble_eq_true rfl) ⟨rfl, rfl, rfl⟩
  ·
    rw [if_pos hb12] at h
    refine zr_aload_n F zd_MReader_numbers_23 rfl ?_
    obtain ⟨le237, hs236, h⟩ := zoS_s h
    obtain ⟨p238, ep238, h⟩ := zoB_s h
    refine zr_callV1 F (k_MReader_next l D tA b sh _ ep238) zd_MReader_numbers_24 (zW_o hs236 (by decide)) rfl zs_MReader_34 rfl zq_MReader_next rfl rfl ⟨(Nat.le_of_ble_eq_true rfl), (Nat.le_of_ble_eq_true rfl)⟩ (Nat.le_of_ble_eq_true rfl) ⟨(Nat.le_of_ble_eq_true rfl), (Nat.le_of_ble_eq_true rfl)⟩ ?_
    refine zr_bipushv (v := 93) F zd_MReader_numbers_27 (by decide) ?_
    refine zr_icmp_eq F 36 zd_MReader_numbers_29 (by decide) (fun hb239 => ?_) (fun hb239 => ?_)
    ·
      rw [if_pos hb239] at h
      refine zr_iconstv (v := 0) F zd_MReader_numbers_36 (by decide) ?_
      refine zr_istore F zd_MReader_numbers_37 (by decide) ?_
      obtain ⟨q240, eq240, h⟩ := zoB_s h
      refine zr_loc (L' := [(0, .ref (b + o)), (2, .ref (b + x1_)), (3, .int x2_), (4, .int x3_), (5, .int x4_), (6, .int x5_), (7, .int x6_), (8, .int x7_), (9, .int 0)]) ⟨rfl, rfl, rfl, rfl, rfl, rfl, rfl, rfl, rfl, trivial⟩ ?_
      refine lp_MReader_numbers_39 F _ _ _ _ _ _ _ _ _ _ _ _ eq240 ?_
      ·
        refine zr_pcn 209 rfl ?_
        refine zr_aload_n F zd_MReader_numbers_209 rfl ?_
        obtain ⟨le242, hs241, h⟩ := zoS_s h
        refine zr_get F 14 4 zd_MReader_numbers_210 (zW_o hs241 (by decide)) rfl (by decide) zw_1508 rfl (by rfl) ?_
        refine zr_if_ne F 253 zd_MReader_numbers_213 (by decide) (fun hb243 => ?_) (fun hb243 => ?_)
        ·
          rw [if_neg hb243] at h
          refine zr_aload_n F zd_MReader_numbers_253 rfl ?_
          refine zr_bipushv (v := 93) F zd_MReader_numbers_254 (by decide) ?_
          obtain ⟨le245, hs244, h⟩ := zoS_s h
          obtain ⟨p246, ep246, h⟩ := zoB_s h
          refine zr_callV0 F (k_MReader_sign l D tA b sh _ ep246) zd_MReader_numbers_256 (zW_o hs244 (by decide)) rfl zs_MReader_55 rfl zq_MReader_sign rfl rfl ⟨(Nat.le_of_ble_eq_true rfl), (Nat.le_of_ble_eq_true rfl)⟩ (Nat.le_of_ble_eq_true rfl) ⟨(Nat.le_of_ble_eq_true rfl), (Nat.le_of_ble_eq_true rfl)⟩ ?_
          obtain rfl := Option.some.inj h
          exact zr_vret F hr zd_MReader_numbers_259 (Nat.le_of_ble_eq_true rfl) (Nat.le_of_ble_eq_true rfl) ⟨rfl, rfl, rfl⟩
        ·
          rw [if_pos hb243] at h
          refine zr_aload_n F zd_MReader_numbers_216 rfl ?_
          refine zr_pcn 217 rfl ?_
          obtain ⟨le248, hs247, h⟩ := zoS_s h
          obtain ⟨p249, ep249, h⟩ := zoB_s h
          refine zr_callV1 F (k_MReader_next l D tA b sh _ ep249) zd_MReader_numbers_217 (zW_o hs247 (by decide)) rfl zs_MReader_34 rfl zq_MReader_next rfl rfl ⟨(Nat.le_of_ble_eq_true rfl), (Nat.le_of_ble_eq_true rfl)⟩ (Nat.le_of_ble_eq_true rfl) ⟨(Nat.le_of_ble_eq_true rfl), (Nat.le_of_ble_eq_true rfl)⟩ ?_
          refine zr_bipushv (v := 93) F zd_MReader_numbers_220 (by decide) ?_
          refine zr_icmp_ne F 253 zd_MReader_numbers_222 (by decide) (fun hb250 => ?_) (fun hb250 => ?_)
          ·
            rw [if_neg hb250] at h
            refine zr_aload_n F zd_MReader_numbers_253 rfl ?_
            refine zr_bipushv (v := 93) F zd_MReader_numbers_254 (by decide) ?_
            obtain ⟨le252, hs251, h⟩ := zoS_s h
            obtain ⟨p253, ep253, h⟩ := zoB_s h
            refine zr_callV0 F (k_MReader_sign l D tA b sh _ ep253) zd_MReader_numbers_256 (zW_o hs251 (by decide)) rfl zs_MReader_55 rfl zq_MReader_sign rfl rfl ⟨(Nat.le_of_ble_eq_true rfl), (Nat.le_of_ble_eq_true rfl)⟩ (Nat.le_of_ble_eq_true rfl) ⟨(Nat.le_of_ble_eq_true rfl), (Nat.le_of_ble_eq_true rfl)⟩ ?_
            obtain rfl := Option.some.inj h
            exact zr_vret F hr zd_MReader_numbers_259 (Nat.le_of_ble_eq_true rfl) (Nat.le_of_ble_eq_true rfl) ⟨rfl, rfl, rfl⟩
          ·
            rw [if_pos hb250] at h
            refine zr_aload_n F zd_MReader_numbers_225 rfl ?_
            refine zr_pcn 226 rfl ?_
            obtain ⟨le255, hs254, h⟩ := zoS_s h
            refine zr_get F 14 9 zd_MReader_numbers_226 (zW_o hs254 (by decide)) rfl (by decide) zw_1515 rfl (by rfl) ?_
            refine zr_iload F zd_MReader_numbers_229 rfl ?_
            refine zr_icmp_lt F 244 zd_MReader_numbers_231 (by decide) (fun hb256 => ?_) (fun hb256 => ?_)
            ·
              rw [if_pos hb256] at h
              refine zr_aload_n F zd_MReader_numbers_244 rfl ?_
              refine zr_iconstv (v := 3) F zd_MReader_numbers_245 (by decide) ?_
              refine zr_aload_n F zd_MReader_numbers_246 rfl ?_
              obtain ⟨le258, hs257, h⟩ := zoS_s h
              refine zr_get F 14 3 zd_MReader_numbers_247 (zW_o hs257 (by decide)) rfl (by decide) zw_1507 rfl (by rfl) ?_
              obtain ⟨le260, hs259, h⟩ := zoS_s h
              obtain ⟨p261, ep261, h⟩ := zoB_s h
              refine zr_callV0 F (k_MReader_fail l D tA b sh _ ep261) zd_MReader_numbers_250 (zW_o hs259 (by decide)) rfl zs_MReader_38 rfl zq_MReader_fail rfl rfl ⟨(Nat.le_of_ble_eq_true rfl), (Nat.le_of_ble_eq_true rfl)⟩ (Nat.le_of_ble_eq_true rfl) ⟨(Nat.le_of_ble_eq_true rfl), (Nat.le_of_ble_eq_true rfl)⟩ ?_
              refine zr_pcn 253 rfl ?_
              refine zr_aload_n F zd_MReader_numbers_253 rfl ?_
              refine zr_bipushv (v := 93) F zd_MReader_numbers_254 (by decide) ?_
              obtain ⟨le263, hs262, h⟩ := zoS_s h
              obtain ⟨p264, ep264, h⟩ := zoB_s h
              refine zr_callV0 F (k_MReader_sign l D tA b sh _ ep264) zd_MReader_numbers_256 (zW_o hs262 (by decide)) rfl zs_MReader_55 rfl zq_MReader_sign rfl rfl ⟨(Nat.le_of_ble_eq_true rfl), (Nat.le_of_ble_eq_true rfl)⟩ (Nat.le_of_ble_eq_true rfl) ⟨(Nat.le_of_ble_eq_true rfl), (Nat.le_of_ble_eq_true rfl)⟩ ?_
              obtain rfl := Option.some.inj h
              exact zr_vret F hr zd_MReader_numbers_259 (Nat.le_of_ble_eq_true rfl) (Nat.le_of_ble_eq_true rfl) ⟨rfl, rfl, rfl⟩
            ·
              rw [if_neg hb256] at h
              refine zr_aload_n F zd_MReader_numbers_234 rfl ?_
              obtain ⟨le266, hs265, h⟩ := zoS_s h
              refine zr_get F 14 9 zd_MReader_numbers_235 (zW_o hs265 (by decide)) rfl (by decide) zw_1515 rfl (by rfl) ?_
              refine zr_iload F zd_MReader_numbers_238 rfl ?_
              obtain ⟨hn267, h⟩ := zoI_s h
              refine zr_irem F zd_MReader_numbers_240 hn267 ?_
              refine zr_pcn 241 rfl ?_
              refine zr_if_eq F 253 zd_MReader_numbers_241 (by decide) (fun hb268 => ?_) (fun hb268 => ?_)
              ·
                rw [if_pos hb268] at h
                refine zr_aload_n F zd_MReader_numbers_253 rfl ?_
                refine zr_bipushv (v := 93) F zd_MReader_numbers_254 (by decide) ?_
                obtain ⟨le270, hs269, h⟩ := zoS_s h
                obtain ⟨p271, ep271, h⟩ := zoB_s h
                refine zr_callV0 F (k_MReader_sign l D tA b sh _ ep271) zd_MReader_numbers_256 (zW_o hs269 (by decide)) rfl zs_MReader_55 rfl zq_MReader_sign rfl rfl ⟨(Nat.le_of_ble_eq_true rfl), (Nat.le_of_ble_eq_true rfl)⟩ (Nat.le_of_ble_eq_true rfl) ⟨(Nat.le_of_ble_eq_true rfl), (Nat.le_of_ble_eq_true rfl)⟩ ?_
                obtain rfl := Option.some.inj h
                exact zr_vret F hr zd_MReader_numbers_259 (Nat.le_of_ble_eq_true rfl) (Nat.le_of_ble_eq_true rfl) ⟨rfl, rfl, rfl⟩
              ·
                rw [if_neg hb268] at h
                refine zr_aload_n F zd_MReader_numbers_244 rfl ?_
                refine zr_iconstv (v := 3) F zd_MReader_numbers_245 (by decide) ?_
                refine zr_aload_n F zd_MReader_numbers_246 rfl ?_
                refine zr_pcn 247 rfl ?_
                obtain ⟨le273, hs272, h⟩ := zoS_s h
                refine zr_get F 14 3 zd_MReader_numbers_247 (zW_o hs272 (by decide)) rfl (by decide) zw_1507 rfl (by rfl) ?_
                obtain ⟨le275, hs274, h⟩ := zoS_s h
                obtain ⟨p276, ep276, h⟩ := zoB_s h
                refine zr_callV0 F (k_MReader_fail l D tA b sh _ ep276) zd_MReader_numbers_250 (zW_o hs274 (by decide)) rfl zs_MReader_38 rfl zq_MReader_fail rfl rfl ⟨(Nat.le_of_ble_eq_true rfl), (Nat.le_of_ble_eq_true rfl)⟩ (Nat.le_of_ble_eq_true rfl) ⟨(Nat.le_of_ble_eq_true rfl), (Nat.le_of_ble_eq_true rfl)⟩ ?_
                refine zr_aload_n F zd_MReader_numbers_253 rfl ?_
                refine zr_bipushv (v := 93) F zd_MReader_numbers_254 (by decide) ?_
                obtain ⟨le278, hs277, h⟩ := zoS_s h
                obtain ⟨p279, ep279, h⟩ := zoB_s h
                refine zr_callV0 F (k_MReader_sign l D tA b sh _ ep279) zd_MReader_numbers_256 (zW_o hs277 (by decide)) rfl zs_MReader_55 rfl zq_MReader_sign rfl rfl ⟨(Nat.le_of_ble_eq_true rfl), (Nat.le_of_ble_eq_true rfl)⟩ (Nat.le_of_ble_eq_true rfl) ⟨(Nat.le_of_ble_eq_true rfl), (Nat.le_of_ble_eq_true rfl)⟩ ?_
                obtain rfl := Option.some.inj h
                exact zr_vret F hr zd_MReader_numbers_259 (Nat.le_of_ble_eq_true rfl) (Nat.le_of_ble_eq_true rfl) ⟨rfl, rfl, rfl⟩
    ·
      rw [if_neg hb239] at h
      refine zr_iconstv (v := 1) F zd_MReader_numbers_32 (by decide) ?_
      refine zr_goto F 37 zd_MReader_numbers_33 (by decide) ?_
      refine zr_pcn 37 rfl ?_
      refine zr_istore F zd_MReader_numbers_37 (by decide) ?_
      obtain ⟨q280, eq280, h⟩ := zoB_s h
      refine zr_loc (L' := [(0, .ref (b + o)), (2, .ref (b + x1_)), (3, .int x2_), (4, .int x3_), (5, .int x4_), (6, .int x5_), (7, .int x6_), (8, .int x7_), (9, .int 1)]) ⟨rfl, rfl, rfl, rfl, rfl, rfl, rfl, rfl, rfl, trivial⟩ ?_
      refine lp_MReader_numbers_39 F _ _ _ _ _ _ _ _ _ _ _ _ eq280 ?_
      ·
        refine zr_aload_n F zd_MReader_numbers_209 rfl ?_
        obtain ⟨le282, hs281, h⟩ := zoS_s h
        refine zr_get F 14 4 zd_MReader_numbers_210 (zW_o hs281 (by decide)) rfl (by decide) zw_1508 rfl (by rfl) ?_
        refine zr_if_ne F 253 zd_MReader_numbers_213 (by decide) (fun hb283 => ?_) (fun hb283 => ?_)
        ·
          rw [if_neg hb283] at h
          refine zr_aload_n F zd_MReader_numbers_253 rfl ?_
          refine zr_bipushv (v := 93) F zd_MReader_numbers_254 (by decide) ?_
          obtain ⟨le285, hs284, h⟩ := zoS_s h
          obtain ⟨p286, ep286, h⟩ := zoB_s h
          refine zr_callV0 F (k_MReader_sign l D tA b sh _ ep286) zd_MReader_numbers_256 (zW_o hs284 (by decide)) rfl zs_MReader_55 rfl zq_MReader_sign rfl rfl ⟨(Nat.le_of_ble_eq_true rfl), (Nat.le_of_ble_eq_true rfl)⟩ (Nat.le_of_ble_eq_true rfl) ⟨(Nat.le_of_ble_eq_true rfl), (Nat.le_of_ble_eq_true rfl)⟩ ?_
          obtain rfl := Option.some.inj h
          exact zr_vret F hr zd_MReader_numbers_259 (Nat.le_of_ble_eq_true rfl) (Nat.le_of_ble_eq_true rfl) ⟨rfl, rfl, rfl⟩
        ·
          rw [if_pos hb283] at h
          refine zr_pcn 216 rfl ?_
          refine zr_aload_n F zd_MReader_numbers_216 rfl ?_
          obtain ⟨le288, hs287, h⟩ := zoS_s h
          obtain ⟨p289, ep289, h⟩ := zoB_s h
          refine zr_callV1 F (k_MReader_next l D tA b sh _ ep289) zd_MReader_numbers_217 (zW_o hs287 (by decide)) rfl zs_MReader_34 rfl zq_MReader_next rfl rfl ⟨(Nat.le_of_ble_eq_true rfl), (Nat.le_of_ble_eq_true rfl)⟩ (Nat.le_of_ble_eq_true rfl) ⟨(Nat.le_of_ble_eq_true rfl), (Nat.le_of_ble_eq_true rfl)⟩ ?_
          refine zr_bipushv (v := 93) F zd_MReader_numbers_220 (by decide) ?_
          refine zr_icmp_ne F 253 zd_MReader_numbers_222 (by decide) (fun hb290 => ?_) (fun hb290 => ?_)
          ·
            rw [if_neg hb290] at h
            refine zr_aload_n F zd_MReader_numbers_253 rfl ?_
            refine zr_bipushv (v := 93) F zd_MReader_numbers_254 (by decide) ?_
            obtain ⟨le292, hs291, h⟩ := zoS_s h
            obtain ⟨p293, ep293, h⟩ := zoB_s h
            refine zr_callV0 F (k_MReader_sign l D tA b sh _ ep293) zd_MReader_numbers_256 (zW_o hs291 (by decide)) rfl zs_MReader_55 rfl zq_MReader_sign rfl rfl ⟨(Nat.le_of_ble_eq_true rfl), (Nat.le_of_ble_eq_true rfl)⟩ (Nat.le_of_ble_eq_true rfl) ⟨(Nat.le_of_ble_eq_true rfl), (Nat.le_of_ble_eq_true rfl)⟩ ?_
            obtain rfl := Option.some.inj h
            exact zr_vret F hr zd_MReader_numbers_259 (Nat.le_of_ble_eq_true rfl) (Nat.le_of_ble_eq_true rfl) ⟨rfl, rfl, rfl⟩
          ·
            rw [if_pos hb290] at h
            refine zr_pcn 225 rfl ?_
            refine zr_aload_n F zd_MReader_numbers_225 rfl ?_
            obtain ⟨le295, hs294, h⟩ := zoS_s h
            refine zr_get F 14 9 zd_MReader_numbers_226 (zW_o hs294 (by decide)) rfl (by decide) zw_1515 rfl (by rfl) ?_
            refine zr_iload F zd_MReader_numbers_229 rfl ?_
            refine zr_icmp_lt F 244 zd_MReader_numbers_231 (by decide) (fun hb296 => ?_) (fun hb296 => ?_)
            ·
              rw [if_pos hb296] at h
              refine zr_aload_n F zd_MReader_numbers_244 rfl ?_
              refine zr_iconstv (v := 3) F zd_MReader_numbers_245 (by decide) ?_
              refine zr_aload_n F zd_MReader_numbers_246 rfl ?_
              obtain ⟨le298, hs297, h⟩ := zoS_s h
              refine zr_get F 14 3 zd_MReader_numbers_247 (zW_o hs297 (by decide)) rfl (by decide) zw_1507 rfl (by rfl) ?_
              refine zr_pcn 250 rfl ?_
              obtain ⟨le300, hs299, h⟩ := zoS_s h
              obtain ⟨p301, ep301, h⟩ := zoB_s h
              refine zr_callV0 F (k_MReader_fail l D tA b sh _ ep301) zd_MReader_numbers_250 (zW_o hs299 (by decide)) rfl zs_MReader_38 rfl zq_MReader_fail rfl rfl ⟨(Nat.le_of_ble_eq_true rfl), (Nat.le_of_ble_eq_true rfl)⟩ (Nat.le_of_ble_eq_true rfl) ⟨(Nat.le_of_ble_eq_true rfl), (Nat.le_of_ble_eq_true rfl)⟩ ?_
              refine zr_aload_n F zd_MReader_numbers_253 rfl ?_
              refine zr_bipushv (v := 93) F zd_MReader_numbers_254 (by decide) ?_
              obtain ⟨le303, hs302, h⟩ := zoS_s h
              obtain ⟨p304, ep304, h⟩ := zoB_s h
              refine zr_callV0 F (k_MReader_sign l D tA b sh _ ep304) zd_MReader_numbers_256 (zW_o hs302 (by decide)) rfl zs_MReader_55 rfl zq_MReader_sign rfl rfl ⟨(Nat.le_of_ble_eq_true rfl), (Nat.le_of_ble_eq_true rfl)⟩ (Nat.le_of_ble_eq_true rfl) ⟨(Nat.le_of_ble_eq_true rfl), (Nat.le_of_ble_eq_true rfl)⟩ ?_
              obtain rfl := Option.some.inj h
              exact zr_vret F hr zd_MReader_numbers_259 (Nat.le_of_ble_eq_true rfl) (Nat.le_of_ble_eq_true rfl) ⟨rfl, rfl, rfl⟩
            ·
              rw [if_neg hb296] at h
              refine zr_aload_n F zd_MReader_numbers_234 rfl ?_
              obtain ⟨le306, hs305, h⟩ := zoS_s h
              refine zr_get F 14 9 zd_MReader_numbers_235 (zW_o hs305 (by decide)) rfl (by decide) zw_1515 rfl (by rfl) ?_
              refine zr_iload F zd_MReader_numbers_238 rfl ?_
              refine zr_pcn 240 rfl ?_
              obtain ⟨hn307, h⟩ := zoI_s h
              refine zr_irem F zd_MReader_numbers_240 hn307 ?_
              refine zr_if_eq F 253 zd_MReader_numbers_241 (by decide) (fun hb308 => ?_) (fun hb308 => ?_)
              ·
                rw [if_pos hb308] at h
                refine zr_aload_n F zd_MReader_numbers_253 rfl ?_
                refine zr_bipushv (v := 93) F zd_MReader_numbers_254 (by decide) ?_
                obtain ⟨le310, hs309, h⟩ := zoS_s h
                obtain ⟨p311, ep311, h⟩ := zoB_s h
                refine zr_callV0 F (k_MReader_sign l D tA b sh _ ep311) zd_MReader_numbers_256 (zW_o hs309 (by decide)) rfl zs_MReader_55 rfl zq_MReader_sign rfl rfl ⟨(Nat.le_of_ble_eq_true rfl), (Nat.le_of_ble_eq_true rfl)⟩ (Nat.le_of_ble_eq_true rfl) ⟨(Nat.le_of_ble_eq_true rfl), (Nat.le_of_ble_eq_true rfl)⟩ ?_
                obtain rfl := Option.some.inj h
                exact zr_vret F hr zd_MReader_numbers_259 (Nat.le_of_ble_eq_true rfl) (Nat.le_of_ble_eq_true rfl) ⟨rfl, rfl, rfl⟩
              ·
                rw [if_neg hb308] at h
                refine zr_aload_n F zd_MReader_numbers_244 rfl ?_
                refine zr_iconstv (v := 3) F zd_MReader_numbers_245 (by decide) ?_
                refine zr_pcn 246 rfl ?_
                refine zr_aload_n F zd_MReader_numbers_246 rfl ?_
                obtain ⟨le313, hs312, h⟩ := zoS_s h
                refine zr_get F 14 3 zd_MReader_numbers_247 (zW_o hs312 (by decide)) rfl (by decide) zw_1507 rfl (by rfl) ?_
                obtain ⟨le315, hs314, h⟩ := zoS_s h
                obtain ⟨p316, ep316, h⟩ := zoB_s h
                refine zr_callV0 F (k_MReader_fail l D tA b sh _ ep316) zd_MReader_numbers_250 (zW_o hs314 (by decide)) rfl zs_MReader_38 rfl zq_MReader_fail rfl rfl ⟨(Nat.le_of_ble_eq_true rfl), (Nat.le_of_ble_eq_true rfl)⟩ (Nat.le_of_ble_eq_true rfl) ⟨(Nat.le_of_ble_eq_true rfl), (Nat.le_of_ble_eq_true rfl)⟩ ?_
                refine zr_aload_n F zd_MReader_numbers_253 rfl ?_
                refine zr_bipushv (v := 93) F zd_MReader_numbers_254 (by decide) ?_
                obtain ⟨le318, hs317, h⟩ := zoS_s h
                obtain ⟨p319, ep319, h⟩ := zoB_s h
                refine zr_callV0 F (k_MReader_sign l D tA b sh _ ep319) zd_MReader_numbers_256 (zW_o hs317 (by decide)) rfl zs_MReader_55 rfl zq_MReader_sign rfl rfl ⟨(Nat.le_of_ble_eq_true rfl), (Nat.le_of_ble_eq_true rfl)⟩ (Nat.le_of_ble_eq_true rfl) ⟨(Nat.le_of_ble_eq_true rfl), (Nat.le_of_ble_eq_true rfl)⟩ ?_
                obtain rfl := Option.some.inj h
                exact zr_vret F hr zd_MReader_numbers_259 (Nat.le_of_ble_eq_true rfl) (Nat.le_of_ble_eq_true rfl) ⟨rfl, rfl, rfl⟩
abbrev zb_MReader_three : ByteArray := prog_17_method_14_code
def zy_MReader_three : MethodName := ⟨"OrreryBoxModel$Reader", "three", "(Ljava/lang/String;[III)V"⟩
theorem zc_MReader_three : Cond.code zy_MReader_three zb_MReader_three 5 none ∈ gw := gw_t 1884 (by decide +kernel) rfl
theorem zq_MReader_three : zy_MReader_three.cls ≠ "java/lang/invoke/MethodHandle" ∧ zy_MReader_three.cls ≠ "java/lang/invoke/VarHandle" ∧ (parseMethodDescriptor zy_MReader_three.desc).map (fun d => d.parameters.length) = some 4 := by decide +kernel
theorem zd_MReader_three_0 : decode zb_MReader_three 0 = .ok (.aload_n 0, 1) := by decide +kernel
theorem zd_MReader_three_1 : decode zb_MReader_three 1 = .ok (.aload_n 1, 1) := by decide +kernel
theorem zd_MReader_three_2 : decode zb_MReader_three 2 = .ok (.aload_n 2, 1) := by decide +kernel
theorem zd_MReader_three_3 : decode zb_MReader_three 3 = .ok (.iload_n 3, 1) := by decide +kernel
theorem zd_MReader_three_4 : decode zb_MReader_three 4 = .ok (.iload 4, 2) := by decide +kernel
theorem zd_MReader_three_6 : decode zb_MReader_three 6 = .ok (.iconst 3, 1) := by decide +kernel
theorem zd_MReader_three_7 : decode zb_MReader_three 7 = .ok (.iconst 3, 1) := by decide +kernel
theorem zd_MReader_three_8 : decode zb_MReader_three 8 = .ok (.iconst 1, 1) := by decide +kernel
theorem zd_MReader_three_9 : decode zb_MReader_three 9 = .ok (.iconst 0, 1) := by decide +kernel
theorem zd_MReader_three_10 : decode zb_MReader_three 10 = .ok (.invokevirtual 110, 3) := by decide +kernel
theorem zd_MReader_three_13 : decode zb_MReader_three 13 = .ok (.return_, 1) := by decide +kernel
theorem zw_1841 : (Jvm.Cond.methodLink "OrreryBoxModel$Reader" (110 : Nat) ({ cls := "OrreryBoxModel$Reader", name := "numbers", desc := "(Ljava/lang/String;[IIIIIII)V" } : Jvm.MethodName)) ∈ gw := gw_t 1841 (by decide +kernel) rfl
theorem zw_1843 : (Jvm.Cond.instanceMethod ({ cls := "OrreryBoxModel$Reader", name := "numbers", desc := "(Ljava/lang/String;[IIIIIII)V" } : Jvm.MethodName)) ∈ gw := gw_t 1843 (by decide +kernel) rfl
theorem zv_81 : (Jvm.Cond.selects "OrreryBoxModel$Reader" (⟨"OrreryBoxModel$Reader", "numbers", "(Ljava/lang/String;[IIIIIII)V"⟩ : MethodName) ⟨"OrreryBoxModel$Reader", "numbers", "(Ljava/lang/String;[IIIIIII)V"⟩) ∈ gw := gw_s 81 (by decide +kernel) rfl
theorem zs_MReader_110 : zwV "OrreryBoxModel$Reader" 110 "OrreryBoxModel$Reader" zy_MReader_numbers zb_MReader_numbers 10 none := ⟨zw_1841, zw_1843, zv_81, zw_15, zc_MReader_numbers⟩
def F_MReader_three (sh : zSh) (mm : zMem) (o : Nat) (x0_ : Nat) (x1_ : Nat) (x2_ : Int32) (x3_ : Int32) : Option zMem := zoS (sh o) 14 (fun le2 => Option.bind (F_MReader_numbers sh mm o x0_ x1_ x2_ x3_ 3 3 1 0) (fun p3 => some p3))
set_option maxHeartbeats 4000000 in
set_option maxRecDepth 100000 in
theorem k_MReader_three (l : Launch) (D : va_G) (tA : Nat → ClassId) (b : Nat) (sh : zSh) (n : Nat) {mm : zMem} {o : Nat} {x0_ : Nat} {x1_ : Nat} {x2_ : Int32} {x3_ : Int32} {r : zMem} (h : F_MReader_three sh mm o x0_ x1_ x2_ x3_ = some r) : zM l D tA b zy_MReader_three zb_MReader_three 5 none 7 157 0 0 [.ref (b + o), .ref (D.2 1000 x0_), .ref (b + x1_), .int x2_, .int x3_] (zW tA b sh mm) n (zE none (zW tA b sh r) n) := by
  unfold F_MReader_three at h
  refine zM_of (own := "OrreryBoxModel$Reader") (plainFor_of_name (by decide)) rfl (Nat.le_of_ble_eq_true rfl) (fun p e s m below meth c F hr hin hH => ?_)
  refine zr_aload_n F zd_MReader_three_0 rfl ?_
  refine zr_aload_n F zd_MReader_three_1 rfl ?_
  refine zr_aload_n F zd_MReader_three_2 rfl ?_
  refine zr_iload_n F zd_MReader_three_3 rfl ?_
  refine zr_iload F zd_MReader_three_4 rfl ?_
  refine zr_iconstv (v := 3) F zd_MReader_three_6 (by decide) ?_
  refine zr_iconstv (v := 3) F zd_MReader_three_7 (by decide) ?_
  refine zr_pcn 8 rfl ?_
  refine zr_iconstv (v := 1) F zd_MReader_three_8 (by decide) ?_
  refine zr_iconstv (v := 0) F zd_MReader_three_9 (by decide) ?_
  obtain ⟨le2, hs1, h⟩ := zoS_s h
  obtain ⟨p3, ep3, h⟩ := zoB_s h
  refine zr_callV0 F (k_MReader_numbers l D tA b sh _ ep3) zd_MReader_three_10 (zW_o hs1 (by decide)) rfl zs_MReader_110 rfl zq_MReader_numbers rfl rfl ⟨(Nat.le_of_ble_eq_true rfl), (Nat.le_of_ble_eq_true rfl)⟩ (Nat.le_of_ble_eq_true rfl) ⟨(Nat.le_of_ble_eq_true rfl), (Nat.le_of_ble_eq_true rfl)⟩ ?_
  obtain rfl := Option.some.inj h
  exact zr_vret F hr zd_MReader_three_13 (Nat.le_of_ble_eq_true rfl) (Nat.le_of_ble_eq_true rfl) ⟨rfl, rfl, rfl⟩
abbrev zb_MReader_texture : ByteArray := prog_17_method_15_code
def zy_MReader_texture : MethodName := ⟨"OrreryBoxModel$Reader", "texture", "(I)V"⟩
theorem zc_MReader_texture : Cond.code zy_MReader_texture zb_MReader_texture 4 none ∈ gw := gw_t 1816 (by decide +kernel) rfl
theorem zq_MReader_texture : zy_MReader_texture.cls ≠ "java/lang/invoke/MethodHandle" ∧ zy_MReader_texture.cls ≠ "java/lang/invoke/VarHandle" ∧ (parseMethodDescriptor zy_MReader_texture.desc).map (fun d => d.parameters.length) = some 1 := by decide +kernel
theorem zd_MReader_texture_0 : decode zb_MReader_texture 0 = .ok (.aload_n 0, 1) := by decide +kernel
theorem zd_MReader_texture_1 : decode zb_MReader_texture 1 = .ok (.getfield 13, 3) := by decide +kernel
theorem zd_MReader_texture_4 : decode zb_MReader_texture 4 = .ok (.astore_n 2, 1) := by decide +kernel
theorem zd_MReader_texture_5 : decode zb_MReader_texture 5 = .ok (.aload_n 2, 1) := by decide +kernel
theorem zd_MReader_texture_6 : decode zb_MReader_texture 6 = .ok (.getfield 114, 3) := by decide +kernel
theorem zd_MReader_texture_9 : decode zb_MReader_texture 9 = .ok (.iload_n 1, 1) := by decide +kernel
theorem zd_MReader_texture_10 : decode zb_MReader_texture 10 = .ok (.aload_n 0, 1) := by decide +kernel
theorem zd_MReader_texture_11 : decode zb_MReader_texture 11 = .ok (.ldc 120, 2) := by decide +kernel
theorem zd_MReader_texture_13 : decode zb_MReader_texture 13 = .ok (.iconst 1, 1) := by decide +kernel
theorem zd_MReader_texture_14 : decode zb_MReader_texture 14 = .ok (.bipush 32, 2) := by decide +kernel
theorem zd_MReader_texture_16 : decode zb_MReader_texture 16 = .ok (.invokevirtual 121, 3) := by decide +kernel
theorem zd_MReader_texture_19 : decode zb_MReader_texture 19 = .ok (.iastore, 1) := by decide +kernel
theorem zd_MReader_texture_20 : decode zb_MReader_texture 20 = .ok (.aload_n 0, 1) := by decide +kernel
theorem zd_MReader_texture_21 : decode zb_MReader_texture 21 = .ok (.getfield 17, 3) := by decide +kernel
theorem zd_MReader_texture_24 : decode zb_MReader_texture 24 = .ok (.ifCond .ne 30, 3) := by decide +kernel
theorem zd_MReader_texture_27 : decode zb_MReader_texture 27 = .ok (.aload_n 2, 1) := by decide +kernel
theorem zd_MReader_texture_28 : decode zb_MReader_texture 28 = .ok (.getfield 114, 3) := by decide +kernel
theorem zd_MReader_texture_31 : decode zb_MReader_texture 31 = .ok (.iload_n 1, 1) := by decide +kernel
theorem zd_MReader_texture_32 : decode zb_MReader_texture 32 = .ok (.iaload, 1) := by decide +kernel
theorem zd_MReader_texture_33 : decode zb_MReader_texture 33 = .ok (.aload_n 2, 1) := by decide +kernel
theorem zd_MReader_texture_34 : decode zb_MReader_texture 34 = .ok (.getfield 114, 3) := by decide +kernel
theorem zd_MReader_texture_37 : decode zb_MReader_texture 37 = .ok (.iload_n 1, 1) := by decide +kernel
theorem zd_MReader_texture_38 : decode zb_MReader_texture 38 = .ok (.iaload, 1) := by decide +kernel
theorem zd_MReader_texture_39 : decode zb_MReader_texture 39 = .ok (.iconst 1, 1) := by decide +kernel
theorem zd_MReader_texture_40 : decode zb_MReader_texture 40 = .ok (.isub, 1) := by decide +kernel
theorem zd_MReader_texture_41 : decode zb_MReader_texture 41 = .ok (.iand, 1) := by decide +kernel
theorem zd_MReader_texture_42 : decode zb_MReader_texture 42 = .ok (.ifCond .eq 12, 3) := by decide +kernel
theorem zd_MReader_texture_45 : decode zb_MReader_texture 45 = .ok (.aload_n 0, 1) := by decide +kernel
theorem zd_MReader_texture_46 : decode zb_MReader_texture 46 = .ok (.iconst 2, 1) := by decide +kernel
theorem zd_MReader_texture_47 : decode zb_MReader_texture 47 = .ok (.aload_n 0, 1) := by decide +kernel
theorem zd_MReader_texture_48 : decode zb_MReader_texture 48 = .ok (.getfield 63, 3) := by decide +kernel
theorem zd_MReader_texture_51 : decode zb_MReader_texture 51 = .ok (.invokevirtual 38, 3) := by decide +kernel
theorem zd_MReader_texture_54 : decode zb_MReader_texture 54 = .ok (.aload_n 0, 1) := by decide +kernel
theorem zd_MReader_texture_55 : decode zb_MReader_texture 55 = .ok (.bipush 44, 2) := by decide +kernel
theorem zd_MReader_texture_57 : decode zb_MReader_texture 57 = .ok (.invokevirtual 55, 3) := by decide +kernel
theorem zd_MReader_texture_60 : decode zb_MReader_texture 60 = .ok (.aload_n 2, 1) := by decide +kernel
theorem zd_MReader_texture_61 : decode zb_MReader_texture 61 = .ok (.getfield 125, 3) := by decide +kernel
theorem zd_MReader_texture_64 : decode zb_MReader_texture 64 = .ok (.iload_n 1, 1) := by decide +kernel
theorem zd_MReader_texture_65 : decode zb_MReader_texture 65 = .ok (.aload_n 0, 1) := by decide +kernel
theorem zd_MReader_texture_66 : decode zb_MReader_texture 66 = .ok (.ldc 128, 2) := by decide +kernel
theorem zd_MReader_texture_68 : decode zb_MReader_texture 68 = .ok (.iconst 0, 1) := by decide +kernel
theorem zd_MReader_texture_69 : decode zb_MReader_texture 69 = .ok (.iconst 2, 1) := by decide +kernel
theorem zd_MReader_texture_70 : decode zb_MReader_texture 70 = .ok (.invokevirtual 121, 3) := by decide +kernel
theorem zd_MReader_texture_73 : decode zb_MReader_texture 73 = .ok (.iastore, 1) := by decide +kernel
theorem zd_MReader_texture_74 : decode zb_MReader_texture 74 = .ok (.aload_n 0, 1) := by decide +kernel
theorem zd_MReader_texture_75 : decode zb_MReader_texture 75 = .ok (.bipush 44, 2) := by decide +kernel
theorem zd_MReader_texture_77 : decode zb_MReader_texture 77 = .ok (.invokevirtual 55, 3) := by decide +kernel
theorem zd_MReader_texture_80 : decode zb_MReader_texture 80 = .ok (.aload_n 2, 1) := by decide +kernel
theorem zd_MReader_texture_81 : decode zb_MReader_texture 81 = .ok (.getfield 129, 3) := by decide +kernel
theorem zd_MReader_texture_84 : decode zb_MReader_texture 84 = .ok (.iload_n 1, 1) := by decide +kernel
theorem zd_MReader_texture_85 : decode zb_MReader_texture 85 = .ok (.aload_n 0, 1) := by decide +kernel
theorem zd_MReader_texture_86 : decode zb_MReader_texture 86 = .ok (.ldc 132, 2) := by decide +kernel
theorem zd_MReader_texture_88 : decode zb_MReader_texture 88 = .ok (.iconst 0, 1) := by decide +kernel
theorem zd_MReader_texture_89 : decode zb_MReader_texture 89 = .ok (.iconst 1, 1) := by decide +kernel
theorem zd_MReader_texture_90 : decode zb_MReader_texture 90 = .ok (.invokevirtual 121, 3) := by decide +kernel
theorem zd_MReader_texture_93 : decode zb_MReader_texture 93 = .ok (.iastore, 1) := by decide +kernel
theorem zd_MReader_texture_94 : decode zb_MReader_texture 94 = .ok (.aload_n 0, 1) := by decide +kernel
theorem zd_MReader_texture_95 : decode zb_MReader_texture 95 = .ok (.bipush 44, 2) := by decide +kernel
theorem zd_MReader_texture_97 : decode zb_MReader_texture 97 = .ok (.invokevirtual 55, 3) := by decide +kernel
theorem zd_MReader_texture_100 : decode zb_MReader_texture 100 = .ok (.iconst 3, 1) := by decide +kernel
theorem zd_MReader_texture_101 : decode zb_MReader_texture 101 = .ok (.aload_n 2, 1) := by decide +kernel
theorem zd_MReader_texture_102 : decode zb_MReader_texture 102 = .ok (.getfield 114, 3) := by decide +kernel
theorem zd_MReader_texture_105 : decode zb_MReader_texture 105 = .ok (.iload_n 1, 1) := by decide +kernel
theorem zd_MReader_texture_106 : decode zb_MReader_texture 106 = .ok (.iaload, 1) := by decide +kernel
theorem zd_MReader_texture_107 : decode zb_MReader_texture 107 = .ok (.imul, 1) := by decide +kernel
theorem zd_MReader_texture_108 : decode zb_MReader_texture 108 = .ok (.aload_n 2, 1) := by decide +kernel
theorem zd_MReader_texture_109 : decode zb_MReader_texture 109 = .ok (.getfield 114, 3) := by decide +kernel
theorem zd_MReader_texture_112 : decode zb_MReader_texture 112 = .ok (.iload_n 1, 1) := by decide +kernel
theorem zd_MReader_texture_113 : decode zb_MReader_texture 113 = .ok (.iaload, 1) := by decide +kernel
theorem zd_MReader_texture_114 : decode zb_MReader_texture 114 = .ok (.imul, 1) := by decide +kernel
theorem zd_MReader_texture_115 : decode zb_MReader_texture 115 = .ok (.istore_n 3, 1) := by decide +kernel
theorem zd_MReader_texture_116 : decode zb_MReader_texture 116 = .ok (.aload_n 0, 1) := by decide +kernel
theorem zd_MReader_texture_117 : decode zb_MReader_texture 117 = .ok (.ldc 133, 2) := by decide +kernel
theorem zd_MReader_texture_119 : decode zb_MReader_texture 119 = .ok (.aload_n 2, 1) := by decide +kernel
theorem zd_MReader_texture_120 : decode zb_MReader_texture 120 = .ok (.getfield 135, 3) := by decide +kernel
theorem zd_MReader_texture_123 : decode zb_MReader_texture 123 = .ok (.sipush 4095, 3) := by decide +kernel
theorem zd_MReader_texture_126 : decode zb_MReader_texture 126 = .ok (.iload_n 1, 1) := by decide +kernel
theorem zd_MReader_texture_127 : decode zb_MReader_texture 127 = .ok (.imul, 1) := by decide +kernel
theorem zd_MReader_texture_128 : decode zb_MReader_texture 128 = .ok (.iconst 0, 1) := by decide +kernel
theorem zd_MReader_texture_129 : decode zb_MReader_texture 129 = .ok (.iload_n 3, 1) := by decide +kernel
theorem zd_MReader_texture_130 : decode zb_MReader_texture 130 = .ok (.iload_n 3, 1) := by decide +kernel
theorem zd_MReader_texture_131 : decode zb_MReader_texture 131 = .ok (.iconst 1, 1) := by decide +kernel
theorem zd_MReader_texture_132 : decode zb_MReader_texture 132 = .ok (.iconst 0, 1) := by decide +kernel
theorem zd_MReader_texture_133 : decode zb_MReader_texture 133 = .ok (.invokevirtual 110, 3) := by decide +kernel
theorem zd_MReader_texture_136 : decode zb_MReader_texture 136 = .ok (.return_, 1) := by decide +kernel
theorem zw_1332 : (Jvm.Cond.fieldLink "OrreryBoxModel$Reader" (114 : Nat) "OrreryBoxModel$Scene" "side" "[I") ∈ gw := gw_t 1332 (by decide +kernel) rfl
theorem zw_1818 : (Jvm.Cond.methodLink "OrreryBoxModel$Reader" (121 : Nat) ({ cls := "OrreryBoxModel$Reader", name := "single", desc := "(Ljava/lang/String;II)I" } : Jvm.MethodName)) ∈ gw := gw_t 1818 (by decide +kernel) rfl
theorem zw_1820 : (Jvm.Cond.instanceMethod ({ cls := "OrreryBoxModel$Reader", name := "single", desc := "(Ljava/lang/String;II)I" } : Jvm.MethodName)) ∈ gw := gw_t 1820 (by decide +kernel) rfl
theorem zv_78 : (Jvm.Cond.selects "OrreryBoxModel$Reader" (⟨"OrreryBoxModel$Reader", "single", "(Ljava/lang/String;II)I"⟩ : MethodName) ⟨"OrreryBoxModel$Reader", "single", "(Ljava/lang/String;II)I"⟩) ∈ gw := gw_s 78 (by decide +kernel) rfl
theorem zs_MReader_121 : zwV "OrreryBoxModel$Reader" 121 "OrreryBoxModel$Reader" zy_MReader_single zb_MReader_single 4 (some .int) := ⟨zw_1818, zw_1820, zv_78, zw_15, zc_MReader_single⟩
theorem zw_1335 : (Jvm.Cond.fieldLink "OrreryBoxModel$Reader" (125 : Nat) "OrreryBoxModel$Scene" "wrap" "[I") ∈ gw := gw_t 1335 (by decide +kernel) rfl
theorem zw_1338 : (Jvm.Cond.fieldLink "OrreryBoxModel$Reader" (129 : Nat) "OrreryBoxModel$Scene" "soft" "[I") ∈ gw := gw_t 1338 (by decide +kernel) rfl
theorem zw_1341 : (Jvm.Cond.fieldLink "OrreryBoxModel$Reader" (135 : Nat) "OrreryBoxModel$Scene" "texel" "[I") ∈ gw := gw_t 1341 (by decide +kernel) rfl
def F_MReader_texture (sh : zSh) (mm : zMem) (o : Nat) (x0_ : Int32) : Option zMem := zoS (sh o) 14 (fun le2 => Option.bind (mm.2.2 o 1) (fun a3 => zoS (sh a3) 15 (fun le5 => Option.bind (mm.2.2 a3 5) (fun a6 => zoS (sh o) 14 (fun le8 => Option.bind (F_MReader_single sh mm o 42 1 32) (fun p9 => zoS (sh a6) 100 (fun le11 => if (x0_ : Int32) < 0 ∨ le11 ≤ (x0_ : Int32).toNatClampNeg then none else zoL (mI (p9.2) a6 (x0_ : Int32).toNatClampNeg (p9.1)) (fun mm13 => zoS (sh o) 14 (fun le15 => (if (mm13.1 o 4) = 0 then zoS (sh a3) 15 (fun le66 => Option.bind (mm13.2.2 a3 5) (fun a67 => zoS (sh a67) 100 (fun le69 => if (x0_ : Int32) < 0 ∨ le69 ≤ (x0_ : Int32).toNatClampNeg then none else zoS (sh a3) 15 (fun le72 => Option.bind (mm13.2.2 a3 5) (fun a73 => zoS (sh a73) 100 (fun le75 => if (x0_ : Int32) < 0 ∨ le75 ≤ (x0_ : Int32).toNatClampNeg then none else (if ((mm13.1 a67 (x0_ : Int32).toNatClampNeg) &&& ((mm13.1 a73 (x0_ : Int32).toNatClampNeg) - 1)) = 0 then zoS (sh o) 14 (fun le79 => Option.bind (F_MReader_sign sh mm13 o 44) (fun p80 => zoS (sh a3) 15 (fun le82 => Option.bind (p80.2.2 a3 6) (fun a83 => zoS (sh o) 14 (fun le85 => Option.bind (F_MReader_single sh p80 o 43 0 2) (fun p86 => zoS (sh a83) 100 (fun le88 => if (x0_ : Int32) < 0 ∨ le88 ≤ (x0_ : Int32).toNatClampNeg then none else zoL (mI (p86.2) a83 (x0_ : Int32).toNatClampNeg (p86.1)) (fun mm90 => zoS (sh o) 14 (fun le92 => Option.bind (F_MReader_sign sh mm90 o 44) (fun p93 => zoS (sh a3) 15 (fun le95 => Option.bind (p93.2.2 a3 7) (fun a96 => zoS (sh o) 14 (fun le98 => Option.bind (F_MReader_single sh p93 o 44 0 1) (fun p99 => zoS (sh a96) 100 (fun le101 => if (x0_ : Int32) < 0 ∨ le101 ≤ (x0_ : Int32).toNatClampNeg then none else zoL (mI (p99.2) a96 (x0_ : Int32).toNatClampNeg (p99.1)) (fun mm103 => zoS (sh o) 14 (fun le105 => Option.bind (F_MReader_sign sh mm103 o 44) (fun p106 => zoS (sh a3) 15 (fun le108 => Option.bind (p106.2.2 a3 5) (fun a109 => zoS (sh a109) 100 (fun le111 => if (x0_ : Int32) < 0 ∨ le111 ≤ (x0_ : Int32).toNatClampNeg then none else zoS (sh a3) 15 (fun le114 => Option.bind (p106.2.2 a3 5) (fun a115 => zoS (sh a115) 100 (fun le117 => if (x0_ : Int32) < 0 ∨ le117 ≤ (x0_ : Int32).toNatClampNeg then none else zoL ((3 * (p106.1 a109 (x0_ : Int32).toNatClampNeg)) * (p106.1 a115 (x0_ : Int32).toNatClampNeg)) (fun x119 => zoS (sh a3) 15 (fun le121 => Option.bind (p106.2.2 a3 8) (fun a122 => zoS (sh o) 14 (fun le124 => Option.bind (F_MReader_numbers sh p106 o 45 a122 (4095 * x0_) 0 x119 x119 1 0) (fun p125 => some p125))))))))))))))))))))))))))))) else zoS (sh o) 14 (fun le127 => zoS (sh o) 14 (fun le129 => Option.bind (F_MReader_fail sh mm13 o 2 (mm13.1 o 6)) (fun p130 => zoS (sh o) 14 (fun le132 => Option.bind (F_MReader_sign sh p130 o 44) (fun p133 => zoS (sh a3) 15 (fun le135 => Option.bind (p133.2.2 a3 6) (fun a136 => zoS (sh o) 14 (fun le138 => Option.bind (F_MReader_single sh p133 o 43 0 2) (fun p139 => zoS (sh a136) 100 (fun le141 => if (x0_ : Int32) < 0 ∨ le141 ≤ (x0_ : Int32).toNatClampNeg then none else zoL (mI (p139.2) a136 (x0_ : Int32).toNatClampNeg (p139.1)) (fun mm143 => zoS (sh o) 14 (fun le145 => Option.bind (F_MReader_sign sh mm143 o 44) (fun p146 => zoS (sh a3) 15 (fun le148 => Option.bind (p146.2.2 a3 7) (fun a149 => zoS (sh o) 14 (fun le151 => Option.bind (F_MReader_single sh p146 o 44 0 1) (fun p152 => zoS (sh a149) 100 (fun le154 => if (x0_ : Int32) < 0 ∨ le154 ≤ (x0_ : Int32).toNatClampNeg then none else zoL (mI (p152.2) a149 (x0_ : Int32).toNatClampNeg (p152.1)) (fun mm156 => zoS (sh o) 14 (fun le158 => Option.bind (F_MReader_sign sh mm156 o 44) (fun p159 => zoS (sh a3) 15 (fun le161 => Option.bind (p159.2.2 a3 5) (fun a162 => zoS (sh a162) 100 (fun le164 => if (x0_ : Int32) < 0 ∨ le164 ≤ (x0_ : Int32).toNatClampNeg then none else zoS (sh a3) 15 (fun le167 => Option.bind (p159.2.2 a3 5) (fun a168 => zoS (sh a168) 100 (fun le170 => if (x0_ : Int32) < 0 ∨ le170 ≤ (x0_ : Int32).toNatClampNeg then none else zoL ((3 * (p159.1 a162 (x0_ : Int32).toNatClampNeg)) * (p159.1 a168 (x0_ : Int32).toNatClampNeg)) (fun x172 => zoS (sh a3) 15 (fun le174 => Option.bind (p159.2.2 a3 8) (fun a175 => zoS (sh o) 14 (fun le177 => Option.bind (F_MReader_numbers sh p159 o 45 a175 (4095 * x0_) 0 x172 x172 1 0) (fun p178 => some p178))))))))))))))))))))))))))))))))))))))) else zoS (sh o) 14 (fun le18 => Option.bind (F_MReader_sign sh mm13 o 44) (fun p19 => zoS (sh a3) 15 (fun le21 => Option.bind (p19.2.2 a3 6) (fun a22 => zoS (sh o) 14 (fun le24 => Option.bind (F_MReader_single sh p19 o 43 0 2) (fun p25 => zoS (sh a22) 100 (fun le27 => if (x0_ : Int32) < 0 ∨ le27 ≤ (x0_ : Int32).toNatClampNeg then none else zoL (mI (p25.2) a22 (x0_ : Int32).toNatClampNeg (p25.1)) (fun mm29 => zoS (sh o) 14 (fun le31 => Option.bind (F_MReader_sign sh mm29 o 44) (fun p32 => zoS (sh a3) 15 (fun le34 => Option.bind (p32.2.2 a3 7) (fun a35 => zoS (sh o) 14 (fun le37 => Option.bind (F_MReader_single sh p32 o 44 0 1) (fun p38 => zoS (sh a35) 100 (fun le40 => if (x0_ : Int32) < 0 ∨ le40 ≤ (x0_ : Int32).toNatClampNeg then none else zoL (mI (p38.2) a35 (x0_ : Int32).toNatClampNeg (p38.1)) (fun mm42 => zoS (sh o) 14 (fun le44 => Option.bind (F_MReader_sign sh mm42 o 44) (fun p45 => zoS (sh a3) 15 (fun le47 => Option.bind (p45.2.2 a3 5) (fun a48 => zoS (sh a48) 100 (fun le50 => if (x0_ : Int32) < 0 ∨ le50 ≤ (x0_ : Int32).toNatClampNeg then none else zoS (sh a3) 15 (fun le53 => Option.bind (p45.2.2 a3 5) (fun a54 => zoS (sh a54) 100 (fun le56 => if (x0_ : Int32) < 0 ∨ le56 ≤ (x0_ : Int32).toNatClampNeg then none else zoL ((3 * (p45.1 a48 (x0_ : Int32).toNatClampNeg)) * (p45.1 a54 (x0_ : Int32).toNatClampNeg)) (fun x58 => zoS (sh a3) 15 (fun le60 => Option.bind (p45.2.2 a3 8) (fun a61 => zoS (sh o) 14 (fun le63 => Option.bind (F_MReader_numbers sh p45 o 45 a61 (4095 * x0_) 0 x58 x58 1 0) (fun p64 => some p64)))))))))))))))))))))))))))))))))))))))
set_option maxHeartbeats 4000000 in
set_option maxRecDepth 100000 in
theorem k_MReader_texture (l : Launch) (D : va_G) (tA : Nat → ClassId) (b : Nat) (sh : zSh) (n : Nat) {mm : zMem} {o : Nat} {x0_ : Int32} {r : zMem} (h : F_MReader_texture sh mm o x0_ = some r) : zM l D tA b zy_MReader_texture zb_MReader_texture 4 none 7 157 0 0 [.ref (b + o), .int x0_] (zW tA b sh mm) n (zE none (zW tA b sh r) n) := by
  unfold F_MReader_texture at h
  refine zM_of (own := "OrreryBoxModel$Reader") (plainFor_of_name (by decide)) rfl (Nat.le_of_ble_eq_true rfl) (fun p e s m below meth c F hr hin hH => ?_)
  refine zr_aload_n F zd_MReader_texture_0 rfl ?_
  obtain ⟨le2, hs1, h⟩ := zoS_s h
  obtain ⟨a3, ea3, h⟩ := zoB_s h
  refine zr_get F 14 1 zd_MReader_texture_1 (zW_o hs1 (by decide)) rfl (by decide) zw_1505 rfl (by rfl) ?_
  refine zr_tor ea3 ?_
  refine zr_astore_n F zd_MReader_texture_4 (by decide) ?_
  refine zr_aload_n F zd_MReader_texture_5 rfl ?_
  obtain ⟨le5, hs4, h⟩ := zoS_s h
  obtain ⟨a6, ea6, h⟩ := zoB_s h
  refine zr_get F 15 5 zd_MReader_texture_6 (zW_o hs4 (by decide)) rfl (by decide) zw_1332 rfl (by rfl) ?_
  refine zr_tor ea6 ?_
  refine zr_iload_n F zd_MReader_texture_9 rfl ?_
  refine zr_aload_n F zd_MReader_texture_10 rfl ?_
  refine zr_pcn 11 rfl ?_
  refine zr_ldcS F 42 "side" zd_MReader_texture_11 (by decide +kernel) ?_
  refine zr_iconstv (v := 1) F zd_MReader_texture_13 (by decide) ?_
  refine zr_bipushv (v := 32) F zd_MReader_texture_14 (by decide) ?_
  obtain ⟨le8, hs7, h⟩ := zoS_s h
  obtain ⟨p9, ep9, h⟩ := zoB_s h
  refine zr_callV1 F (k_MReader_single l D tA b sh _ ep9) zd_MReader_texture_16 (zW_o hs7 (by decide)) rfl zs_MReader_121 rfl zq_MReader_single rfl rfl ⟨(Nat.le_of_ble_eq_true rfl), (Nat.le_of_ble_eq_true rfl)⟩ (Nat.le_of_ble_eq_true rfl) ⟨(Nat.le_of_ble_eq_true rfl), (Nat.le_of_ble_eq_true rfl)⟩ ?_
  obtain ⟨le11, hs10, h⟩ := zoS_s h
  obtain ⟨hi12, h⟩ := zoI_s h
  refine zr_iast F zd_MReader_texture_19 (zW_a0 hs10) hi12 ?_
  obtain ⟨mm13, emm13, h⟩ := zoL_s h
  refine zr_norm (zW tA b sh mm13) _ (by rw [emm13]; exact zW_s0 hs10) rfl ?_
  refine zr_aload_n F zd_MReader_texture_20 rfl ?_
  obtain ⟨le15, hs14, h⟩ := zoS_s h
  refine zr_get F 14 4 zd_MReader_texture_21 (zW_o hs14 (by decide)) rfl (by decide) zw_1508 rfl (by rfl) ?_
  refine zr_if_ne F 54 zd_MReader_texture_24 (by decide) (fun hb16 => ?_) (fun hb16 => ?_)
  ·
    rw [if_neg hb16] at h
    refine zr_pcn 54 rfl ?_
    refine zr_aload_n F zd_MReader_texture_54 rfl ?_
    refine zr_bipushv (v := 44) F zd_MReader_texture_55 (by decide) ?_
    obtain ⟨le18, hs17, h⟩ := zoS_s h
    obtain ⟨p19, ep19, h⟩ := zoB_s h
    refine zr_callV0 F (k_MReader_sign l D tA b sh _ ep19) zd_MReader_texture_57 (zW_o hs17 (by decide)) rfl zs_MReader_55 rfl zq_MReader_sign rfl rfl ⟨(Nat.le_of_ble_eq_true rfl), (Nat.le_of_ble_eq_true rfl)⟩ (Nat.le_of_ble_eq_true rfl) ⟨(Nat.le_of_ble_eq_true rfl), (Nat.le_of_ble_eq_true rfl)⟩ ?_
    refine zr_aload_n F zd_MReader_texture_60 rfl ?_
    obtain ⟨le21, hs20, h⟩ := zoS_s h
    obtain ⟨a22, ea22, h⟩ := zoB_s h
    refine zr_get F 15 6 zd_MReader_texture_61 (zW_o hs20 (by decide)) rfl (by decide) zw_1335 rfl (by rfl) ?_
    refine zr_tor ea22 ?_
    refine zr_iload_n F zd_MReader_texture_64 rfl ?_
    refine zr_aload_n F zd_MReader_texture_65 rfl ?_
    refine zr_ldcS F 43 "wrap" zd_MReader_texture_66 (by decide +kernel) ?_
    refine zr_pcn 68 rfl ?_
    refine zr_iconstv (v := 0) F zd_MReader_texture_68 (by decide) ?_
    refine zr_iconstv (v := 2) F zd_MReader_texture_69 (by decide) ?_
    obtain ⟨le24, hs23, h⟩ := zoS_s h
    obtain ⟨p25, ep25, h⟩ := zoB_s h
    refine zr_callV1 F (k_MReader_single l D tA b sh _ ep25) zd_MReader_texture_70 (zW_o hs23 (by decide)) rfl zs_MReader_121 rfl zq_MReader_single rfl rfl ⟨(Nat.le_of_ble_eq_true rfl), (Nat.le_of_ble_eq_true rfl)⟩ (Nat.le_of_ble_eq_true rfl) ⟨(Nat.le_of_ble_eq_true rfl), (Nat.le_of_ble_eq_true rfl)⟩ ?_
    obtain ⟨le27, hs26, h⟩ := zoS_s h
    obtain ⟨hi28, h⟩ := zoI_s h
    refine zr_iast F zd_MReader_texture_73 (zW_a0 hs26) hi28 ?_
    obtain ⟨mm29, emm29, h⟩ := zoL_s h
    refine zr_norm (zW tA b sh mm29) _ (by rw [emm29]; exact zW_s0 hs26) rfl ?_
    refine zr_aload_n F zd_MReader_texture_74 rfl ?_
    refine zr_bipushv (v := 44) F zd_MReader_texture_75 (by decide) ?_
    obtain ⟨le31, hs30, h⟩ := zoS_s h
    obtain ⟨p32, ep32, h⟩ := zoB_s h
    refine zr_callV0 F (k_MReader_sign l D tA b sh _ ep32) zd_MReader_texture_77 (zW_o hs30 (by decide)) rfl zs_MReader_55 rfl zq_MReader_sign rfl rfl ⟨(Nat.le_of_ble_eq_true rfl), (Nat.le_of_ble_eq_true rfl)⟩ (Nat.le_of_ble_eq_true rfl) ⟨(Nat.le_of_ble_eq_true rfl), (Nat.le_of_ble_eq_true rfl)⟩ ?_
    refine zr_aload_n F zd_MReader_texture_80 rfl ?_
    refine zr_pcn 81 rfl ?_
    obtain ⟨le34, hs33, h⟩ := zoS_s h
    obtain ⟨a35, ea35, h⟩ := zoB_s h
    refine zr_get F 15 7 zd_MReader_texture_81 (zW_o hs33 (by decide)) rfl (by decide) zw_1338 rfl (by rfl) ?_
    refine zr_tor ea35 ?_
    refine zr_iload_n F zd_MReader_texture_84 rfl ?_
    refine zr_aload_n F zd_MReader_texture_85 rfl ?_
    refine zr_ldcS F 44 "soft" zd_MReader_texture_86 (by decide +kernel) ?_
    refine zr_iconstv (v := 0) F zd_MReader_texture_88 (by decide) ?_
    refine zr_iconstv (v := 1) F zd_MReader_texture_89 (by decide) ?_
    obtain ⟨le37, hs36, h⟩ := zoS_s h
    obtain ⟨p38, ep38, h⟩ := zoB_s h
    refine zr_callV1 F (k_MReader_single l D tA b sh _ ep38) zd_MReader_texture_90 (zW_o hs36 (by decide)) rfl zs_MReader_121 rfl zq_MReader_single rfl rfl ⟨(Nat.le_of_ble_eq_true rfl), (Nat.le_of_ble_eq_true rfl)⟩ (Nat.le_of_ble_eq_true rfl) ⟨(Nat.le_of_ble_eq_true rfl), (Nat.le_of_ble_eq_true rfl)⟩ ?_
    obtain ⟨le40, hs39, h⟩ := zoS_s h
    obtain ⟨hi41, h⟩ := zoI_s h
    refine zr_iast F zd_MReader_texture_93 (zW_a0 hs39) hi41 ?_
    obtain ⟨mm42, emm42, h⟩ := zoL_s h
    refine zr_norm (zW tA b sh mm42) _ (by rw [emm42]; exact zW_s0 hs39) rfl ?_
    refine zr_pcn 94 rfl ?_
    refine zr_aload_n F zd_MReader_texture_94 rfl ?_
    refine zr_bipushv (v := 44) F zd_MReader_texture_95 (by decide) ?_
    obtain ⟨le44, hs43, h⟩ := zoS_s h
    obtain ⟨p45, ep45, h⟩ := zoB_s h
    refine zr_callV0 F (k_MReader_sign l D tA b sh _ ep45) zd_MReader_texture_97 (zW_o hs43 (by decide)) rfl zs_MReader_55 rfl zq_MReader_sign rfl rfl ⟨(Nat.le_of_ble_eq_true rfl), (Nat.le_of_ble_eq_true rfl)⟩ (Nat.le_of_ble_eq_true rfl) ⟨(Nat.le_of_ble_eq_true rfl), (Nat.le_of_ble_eq_true rfl)⟩ ?_
    refine zr_iconstv (v := 3) F zd_MReader_texture_100 (by decide) ?_
    refine zr_aload_n F zd_MReader_texture_101 rfl ?_
    obtain ⟨le47, hs46, h⟩ := zoS_s h
    obtain ⟨a48, ea48, h⟩ := zoB_s h
    refine zr_get F 15 5 zd_MReader_texture_102 (zW_o hs46 (by decide)) rfl (by decide) zw_1332 rfl (by rfl) ?_
    refine zr_tor ea48 ?_
    refine zr_iload_n F zd_MReader_texture_105 rfl ?_
    obtain ⟨le50, hs49, h⟩ := zoS_s h
    obtain ⟨hi51, h⟩ := zoI_s h
    refine zr_iald F zd_MReader_texture_106 (zW_a0 hs49) hi51 ?_
    refine zr_pcn 107 rfl ?_
    refine zr_imul F zd_MReader_texture_107 ?_
    refine zr_aload_n F zd_MReader_texture_108 rfl ?_
    obtain ⟨le53, hs52, h⟩ := zoS_s h
    obtain ⟨a54, ea54, h⟩ := zoB_s h
    refine zr_get F 15 5 zd_MReader_texture_109 (zW_o hs52 (by decide)) rfl (by decide) zw_1332 rfl (by rfl) ?_
    refine zr_tor ea54 ?_
    refine zr_iload_n F zd_MReader_texture_112 rfl ?_
    obtain ⟨le56, hs55, h⟩ := zoS_s h
    obtain ⟨hi57, h⟩ := zoI_s h
    refine zr_iald F zd_MReader_texture_113 (zW_a0 hs55) hi57 ?_
    refine zr_imul F zd_MReader_texture_114 ?_
    obtain ⟨x58, ex58, h⟩ := zoL_s h
    rw [← ex58]
    refine zr_istore_n F zd_MReader_texture_115 (by decide) ?_
    refine zr_aload_n F zd_MReader_texture_116 rfl ?_
    refine zr_pcn 117 rfl ?_
    refine zr_ldcS F 45 "texels" zd_MReader_texture_117 (by decide +kernel) ?_
    refine zr_aload_n F zd_MReader_texture_119 rfl ?_
    obtain ⟨le60, hs59, h⟩ := zoS_s h
    obtain ⟨a61, ea61, h⟩ := zoB_s h
    refine zr_get F 15 8 zd_MReader_texture_120 (zW_o hs59 (by decide)) rfl (by decide) zw_1341 rfl (by rfl) ?_
    refine zr_tor ea61 ?_
    refine zr_sipushv (v := 4095) F zd_MReader_texture_123 (by decide) ?_
    refine zr_iload_n F zd_MReader_texture_126 rfl ?_
    refine zr_imul F zd_MReader_texture_127 ?_
    refine zr_iconstv (v := 0) F zd_MReader_texture_128 (by decide) ?_
    refine zr_iload_n F zd_MReader_texture_129 rfl ?_
    refine zr_pcn 130 rfl ?_
    refine zr_iload_n F zd_MReader_texture_130 rfl ?_
    refine zr_iconstv (v := 1) F zd_MReader_texture_131 (by decide) ?_
    refine zr_iconstv (v := 0) F zd_MReader_texture_132 (by decide) ?_
    obtain ⟨le63, hs62, h⟩ := zoS_s h
    obtain ⟨p64, ep64, h⟩ := zoB_s h
    refine zr_callV0 F (k_MReader_numbers l D tA b sh _ ep64) zd_MReader_texture_133 (zW_o hs62 (by decide)) rfl zs_MReader_110 rfl zq_MReader_numbers rfl rfl ⟨(Nat.le_of_ble_eq_true rfl), (Nat.le_of_ble_eq_true rfl)⟩ (Nat.le_of_ble_eq_true rfl) ⟨(Nat.le_of_ble_eq_true rfl), (Nat.le_of_ble_eq_true rfl)⟩ ?_
    obtain rfl := Option.some.inj h
    exact zr_vret F hr zd_MReader_texture_136 (Nat.le_of_ble_eq_true rfl) (Nat.le_of_ble_eq_true rfl) ⟨rfl, rfl, rfl⟩
  ·
    rw [if_pos hb16] at h
    refine zr_aload_n F zd_MReader_texture_27 rfl ?_
    obtain ⟨le66, hs65, h⟩ := zoS_s h
    obtain ⟨a67, ea67, h⟩ := zoB_s h
    refine zr_get F 15 5 zd_MReader_texture_28 (zW_o hs65 (by decide)) rfl (by decide) zw_1332 rfl (by rfl) ?_
    refine zr_tor ea67 ?_
    refine zr_iload_n F zd_MReader_texture_31 rfl ?_
    refine zr_pcn 32 rfl ?_
    obtain ⟨le69, hs68, h⟩ := zoS_s h
    obtain ⟨hi70, h⟩ := zoI_s h
    refine zr_iald F zd_MReader_texture_32 (zW_a0 hs68) hi70 ?_
    refine zr_aload_n F zd_MReader_texture_33 rfl ?_
    obtain ⟨le72, hs71, h⟩ := zoS_s h
    obtain ⟨a73, ea73, h⟩ := zoB_s h
    refine zr_get F 15 5 zd_MReader_texture_34 (zW_o hs71 (by decide)) rfl (by decide) zw_1332 rfl (by rfl) ?_
    refine zr_tor ea73 ?_
    refine zr_iload_n F zd_MReader_texture_37 rfl ?_
    obtain ⟨le75, hs74, h⟩ := zoS_s h
    obtain ⟨hi76, h⟩ := zoI_s h
    refine zr_iald F zd_MReader_texture_38 (zW_a0 hs74) hi76 ?_
    refine zr_iconstv (v := 1) F zd_MReader_texture_39 (by decide) ?_
    refine zr_isub F zd_MReader_texture_40 ?_
    refine zr_iand F zd_MReader_texture_41 ?_
    refine zr_pcn 42 rfl ?_
    refine zr_if_eq F 54 zd_MReader_texture_42 (by decide) (fun hb77 => ?_) (fun hb77 => ?_)
    ·
      rw [if_pos hb77] at h
      refine zr_aload_n F zd_MReader_texture_54 rfl ?_
      refine zr_bipushv (v := 44) F zd_MReader_texture_55 (by decide) ?_
      obtain ⟨le79, hs78, h⟩ := zoS_s h
      obtain ⟨p80, ep80, h⟩ := zoB_s h
      refine zr_callV0 F (k_MReader_sign l D tA b sh _ ep80) zd_MReader_texture_57 (zW_o hs78 (by decide)) rfl zs_MReader_55 rfl zq_MReader_sign rfl rfl ⟨(Nat.le_of_ble_eq_true rfl), (Nat.le_of_ble_eq_true rfl)⟩ (Nat.le_of_ble_eq_true rfl) ⟨(Nat.le_of_ble_eq_true rfl), (Nat.le_of_ble_eq_true rfl)⟩ ?_
      refine zr_aload_n F zd_MReader_texture_60 rfl ?_
      obtain ⟨le82, hs81, h⟩ := zoS_s h
      obtain ⟨a83, ea83, h⟩ := zoB_s h
      refine zr_get F 15 6 zd_MReader_texture_61 (zW_o hs81 (by decide)) rfl (by decide) zw_1335 rfl (by rfl) ?_
      refine zr_tor ea83 ?_
      refine zr_iload_n F zd_MReader_texture_64 rfl ?_
      refine zr_aload_n F zd_MReader_texture_65 rfl ?_
      refine zr_pcn 66 rfl ?_
      refine zr_ldcS F 43 "wrap" zd_MReader_texture_66 (by decide +kernel) ?_
      refine zr_iconstv (v := 0) F zd_MReader_texture_68 (by decide) ?_
      refine zr_iconstv (v := 2) F zd_MReader_texture_69 (by decide) ?_
      obtain ⟨le85, hs84, h⟩ := zoS_s h
      obtain ⟨p86, ep86, h⟩ := zoB_s h
      refine zr_callV1 F (k_MReader_single l D tA b sh _ ep86) zd_MReader_texture_70 (zW_o hs84 (by decide)) rfl zs_MReader_121 rfl zq_MReader_single rfl rfl ⟨(Nat.le_of_ble_eq_true rfl), (Nat.le_of_ble_eq_true rfl)⟩ (Nat.le_of_ble_eq_true rfl) ⟨(Nat.le_of_ble_eq_true rfl), (Nat.le_of_ble_eq_true rfl)⟩ ?_
      obtain ⟨le88, hs87, h⟩ := zoS_s h
      obtain ⟨hi89, h⟩ := zoI_s h
      refine zr_iast F zd_MReader_texture_73 (zW_a0 hs87) hi89 ?_
      obtain ⟨mm90, emm90, h⟩ := zoL_s h
      refine zr_norm (zW tA b sh mm90) _ (by rw [emm90]; exact zW_s0 hs87) rfl ?_
      refine zr_aload_n F zd_MReader_texture_74 rfl ?_
      refine zr_bipushv (v := 44) F zd_MReader_texture_75 (by decide) ?_
      obtain ⟨le92, hs91, h⟩ := zoS_s h
      obtain ⟨p93, ep93, h⟩ := zoB_s h
      refine zr_callV0 F (k_MReader_sign l D tA b sh _ ep93) zd_MReader_texture_77 (zW_o hs91 (by decide)) rfl zs_MReader_55 rfl zq_MReader_sign rfl rfl ⟨(Nat.le_of_ble_eq_true rfl), (Nat.le_of_ble_eq_true rfl)⟩ (Nat.le_of_ble_eq_true rfl) ⟨(Nat.le_of_ble_eq_true rfl), (Nat.le_of_ble_eq_true rfl)⟩ ?_
      refine zr_pcn 80 rfl ?_
      refine zr_aload_n F zd_MReader_texture_80 rfl ?_
      obtain ⟨le95, hs94, h⟩ := zoS_s h
      obtain ⟨a96, ea96, h⟩ := zoB_s h
      refine zr_get F 15 7 zd_MReader_texture_81 (zW_o hs94 (by decide)) rfl (by decide) zw_1338 rfl (by rfl) ?_
      refine zr_tor ea96 ?_
      refine zr_iload_n F zd_MReader_texture_84 rfl ?_
      refine zr_aload_n F zd_MReader_texture_85 rfl ?_
      refine zr_ldcS F 44 "soft" zd_MReader_texture_86 (by decide +kernel) ?_
      refine zr_iconstv (v := 0) F zd_MReader_texture_88 (by decide) ?_
      refine zr_iconstv (v := 1) F zd_MReader_texture_89 (by decide) ?_
      obtain ⟨le98, hs97, h⟩ := zoS_s h
      obtain ⟨p99, ep99, h⟩ := zoB_s h
      refine zr_callV1 F (k_MReader_single l D tA b sh _ ep99) zd_MReader_texture_90 (zW_o hs97 (by decide)) rfl zs_MReader_121 rfl zq_MReader_single rfl rfl ⟨(Nat.le_of_ble_eq_true rfl), (Nat.le_of_ble_eq_true rfl)⟩ (Nat.le_of_ble_eq_true rfl) ⟨(Nat.le_of_ble_eq_true rfl), (Nat.le_of_ble_eq_true rfl)⟩ ?_
      refine zr_pcn 93 rfl ?_
      obtain ⟨le101, hs100, h⟩ := zoS_s h
      obtain ⟨hi102, h⟩ := zoI_s h
      refine zr_iast F zd_MReader_texture_93 (zW_a0 hs100) hi102 ?_
      obtain ⟨mm103, emm103, h⟩ := zoL_s h
      refine zr_norm (zW tA b sh mm103) _ (by rw [emm103]; exact zW_s0 hs100) rfl ?_
      refine zr_aload_n F zd_MReader_texture_94 rfl ?_
      refine zr_bipushv (v := 44) F zd_MReader_texture_95 (by decide) ?_
      obtain ⟨le105, hs104, h⟩ := zoS_s h
      obtain ⟨p106, ep106, h⟩ := zoB_s h
      refine zr_callV0 F (k_MReader_sign l D tA b sh _ ep106) zd_MReader_texture_97 (zW_o hs104 (by decide)) rfl zs_MReader_55 rfl zq_MReader_sign rfl rfl ⟨(Nat.le_of_ble_eq_true rfl), (Nat.le_of_ble_eq_true rfl)⟩ (Nat.le_of_ble_eq_true rfl) ⟨(Nat.le_of_ble_eq_true rfl), (Nat.le_of_ble_eq_true rfl)⟩ ?_
      refine zr_iconstv (v := 3) F zd_MReader_texture_100 (by decide) ?_
      refine zr_aload_n F zd_MReader_texture_101 rfl ?_
      obtain ⟨le108, hs107, h⟩ := zoS_s h
      obtain ⟨a109, ea109, h⟩ := zoB_s h
      refine zr_get F 15 5 zd_MReader_texture_102 (zW_o hs107 (by decide)) rfl (by decide) zw_1332 rfl (by rfl) ?_
      refine zr_tor ea109 ?_
      refine zr_iload_n F zd_MReader_texture_105 rfl ?_
      refine zr_pcn 106 rfl ?_
      obtain ⟨le111, hs110, h⟩ := zoS_s h
      obtain ⟨hi112, h⟩ := zoI_s h
      refine zr_iald F zd_MReader_texture_106 (zW_a0 hs110) hi112 ?_
      refine zr_imul F zd_MReader_texture_107 ?_
      refine zr_aload_n F zd_MReader_texture_108 rfl ?_
      obtain ⟨le114, hs113, h⟩ := zoS_s h
      obtain ⟨a115, ea115, h⟩ := zoB_s h
      refine zr_get F 15 5 zd_MReader_texture_109 (zW_o hs113 (by decide)) rfl (by decide) zw_1332 rfl (by rfl) ?_
      refine zr_tor ea115 ?_
      refine zr_iload_n F zd_MReader_texture_112 rfl ?_
      obtain ⟨le117, hs116, h⟩ := zoS_s h
      obtain ⟨hi118, h⟩ := zoI_s h
      refine zr_iald F zd_MReader_texture_113 (zW_a0 hs116) hi118 ?_
      refine zr_imul F zd_MReader_texture_114 ?_
      obtain ⟨x119, ex119, h⟩ := zoL_s h
      rw [← ex119]
      refine zr_istore_n F zd_MReader_texture_115 (by decide) ?_
      refine zr_pcn 116 rfl ?_
      refine zr_aload_n F zd_MReader_texture_116 rfl ?_
      refine zr_ldcS F 45 "texels" zd_MReader_texture_117 (by decide +kernel) ?_
      refine zr_aload_n F zd_MReader_texture_119 rfl ?_
      obtain ⟨le121, hs120, h⟩ := zoS_s h
      obtain ⟨a122, ea122, h⟩ := zoB_s h
      refine zr_get F 15 8 zd_MReader_texture_120 (zW_o hs120 (by decide)) rfl (by decide) zw_1341 rfl (by rfl) ?_
      refine zr_tor ea122 ?_
      refine zr_sipushv (v := 4095) F zd_MReader_texture_123 (by decide) ?_
      refine zr_iload_n F zd_MReader_texture_126 rfl ?_
      refine zr_imul F zd_MReader_texture_127 ?_
      refine zr_iconstv (v := 0) F zd_MReader_texture_128 (by decide) ?_
      refine zr_pcn 129 rfl ?_
      refine zr_iload_n F zd_MReader_texture_129 rfl ?_
      refine zr_iload_n F zd_MReader_texture_130 rfl ?_
      refine zr_iconstv (v := 1) F zd_MReader_texture_131 (by decide) ?_
      refine zr_iconstv (v := 0) F zd_MReader_texture_132 (by decide) ?_
      obtain ⟨le124, hs123, h⟩ := zoS_s h
      obtain ⟨p125, ep125, h⟩ := zoB_s h
      refine zr_callV0 F (k_MReader_numbers l D tA b sh _ ep125) zd_MReader_texture_133 (zW_o hs123 (by decide)) rfl zs_MReader_110 rfl zq_MReader_numbers rfl rfl ⟨(Nat.le_of_ble_eq_true rfl), (Nat.le_of_ble_eq_true rfl)⟩ (Nat.le_of_ble_eq_true rfl) ⟨(Nat.le_of_ble_eq_true rfl), (Nat.le_of_ble_eq_true rfl)⟩ ?_
      obtain rfl := Option.some.inj h
      exact zr_vret F hr zd_MReader_texture_136 (Nat.le_of_ble_eq_true rfl) (Nat.le_of_ble_eq_true rfl) ⟨rfl, rfl, rfl⟩
    ·
      rw [if_neg hb77] at h
      refine zr_aload_n F zd_MReader_texture_45 rfl ?_
      refine zr_iconstv (v := 2) F zd_MReader_texture_46 (by decide) ?_
      refine zr_pcn 47 rfl ?_
      refine zr_aload_n F zd_MReader_texture_47 rfl ?_
      obtain ⟨le127, hs126, h⟩ := zoS_s h
      refine zr_get F 14 6 zd_MReader_texture_48 (zW_o hs126 (by decide)) rfl (by decide) zw_1512 rfl (by rfl) ?_
      obtain ⟨le129, hs128, h⟩ := zoS_s h
      obtain ⟨p130, ep130, h⟩ := zoB_s h
      refine zr_callV0 F (k_MReader_fail l D tA b sh _ ep130) zd_MReader_texture_51 (zW_o hs128 (by decide)) rfl zs_MReader_38 rfl zq_MReader_fail rfl rfl ⟨(Nat.le_of_ble_eq_true rfl), (Nat.le_of_ble_eq_true rfl)⟩ (Nat.le_of_ble_eq_true rfl) ⟨(Nat.le_of_ble_eq_true rfl), (Nat.le_of_ble_eq_true rfl)⟩ ?_
      refine zr_aload_n F zd_MReader_texture_54 rfl ?_
      refine zr_bipushv (v := 44) F zd_MReader_texture_55 (by decide) ?_
      obtain ⟨le132, hs131, h⟩ := zoS_s h
      obtain ⟨p133, ep133, h⟩ := zoB_s h
      refine zr_callV0 F (k_MReader_sign l D tA b sh _ ep133) zd_MReader_texture_57 (zW_o hs131 (by decide)) rfl zs_MReader_55 rfl zq_MReader_sign rfl rfl ⟨(Nat.le_of_ble_eq_true rfl), (Nat.le_of_ble_eq_true rfl)⟩ (Nat.le_of_ble_eq_true rfl) ⟨(Nat.le_of_ble_eq_true rfl), (Nat.le_of_ble_eq_true rfl)⟩ ?_
      refine zr_aload_n F zd_MReader_texture_60 rfl ?_
      obtain ⟨le135, hs134, h⟩ := zoS_s h
      obtain ⟨a136, ea136, h⟩ := zoB_s h
      refine zr_get F 15 6 zd_MReader_texture_61 (zW_o hs134 (by decide)) rfl (by decide) zw_1335 rfl (by rfl) ?_
      refine zr_tor ea136 ?_
      refine zr_pcn 64 rfl ?_
      refine zr_iload_n F zd_MReader_texture_64 rfl ?_
      refine zr_aload_n F zd_MReader_texture_65 rfl ?_
      refine zr_ldcS F 43 "wrap" zd_MReader_texture_66 (by decide +kernel) ?_
      refine zr_iconstv (v := 0) F zd_MReader_texture_68 (by decide) ?_
      refine zr_iconstv (v := 2) F zd_MReader_texture_69 (by decide) ?_
      obtain ⟨le138, hs137, h⟩ := zoS_s h
      obtain ⟨p139, ep139, h⟩ := zoB_s h
      refine zr_callV1 F (k_MReader_single l D tA b sh _ ep139) zd_MReader_texture_70 (zW_o hs137 (by decide)) rfl zs_MReader_121 rfl zq_MReader_single rfl rfl ⟨(Nat.le_of_ble_eq_true rfl), (Nat.le_of_ble_eq_true rfl)⟩ (Nat.le_of_ble_eq_true rfl) ⟨(Nat.le_of_ble_eq_true rfl), (Nat.le_of_ble_eq_true rfl)⟩ ?_
      obtain ⟨le141, hs140, h⟩ := zoS_s h
      obtain ⟨hi142, h⟩ := zoI_s h
      refine zr_iast F zd_MReader_texture_73 (zW_a0 hs140) hi142 ?_
      obtain ⟨mm143, emm143, h⟩ := zoL_s h
      refine zr_norm (zW tA b sh mm143) _ (by rw [emm143]; exact zW_s0 hs140) rfl ?_
      refine zr_aload_n F zd_MReader_texture_74 rfl ?_
      refine zr_pcn 75 rfl ?_
      refine zr_bipushv (v := 44) F zd_MReader_texture_75 (by decide) ?_
      obtain ⟨le145, hs144, h⟩ := zoS_s h
      obtain ⟨p146, ep146, h⟩ := zoB_s h
      refine zr_callV0 F (k_MReader_sign l D tA b sh _ ep146) zd_MReader_texture_77 (zW_o hs144 (by decide)) rfl zs_MReader_55 rfl zq_MReader_sign rfl rfl ⟨(Nat.le_of_ble_eq_true rfl), (Nat.le_of_ble_eq_true rfl)⟩ (Nat.le_of_ble_eq_true rfl) ⟨(Nat.le_of_ble_eq_true rfl), (Nat.le_of_ble_eq_true rfl)⟩ ?_
      refine zr_aload_n F zd_MReader_texture_80 rfl ?_
      obtain ⟨le148, hs147, h⟩ := zoS_s h
      obtain ⟨a149, ea149, h⟩ := zoB_s h
      refine zr_get F 15 7 zd_MReader_texture_81 (zW_o hs147 (by decide)) rfl (by decide) zw_1338 rfl (by rfl) ?_
      refine zr_tor ea149 ?_
      refine zr_iload_n F zd_MReader_texture_84 rfl ?_
      refine zr_aload_n F zd_MReader_texture_85 rfl ?_
      refine zr_ldcS F 44 "soft" zd_MReader_texture_86 (by decide +kernel) ?_
      refine zr_iconstv (v := 0) F zd_MReader_texture_88 (by decide) ?_
      refine zr_pcn 89 rfl ?_
      refine zr_iconstv (v := 1) F zd_MReader_texture_89 (by decide) ?_
      obtain ⟨le151, hs150, h⟩ := zoS_s h
      obtain ⟨p152, ep152, h⟩ := zoB_s h
      refine zr_callV1 F (k_MReader_single l D tA b sh _ ep152) zd_MReader_texture_90 (zW_o hs150 (by decide)) rfl zs_MReader_121 rfl zq_MReader_single rfl rfl ⟨(Nat.le_of_ble_eq_true rfl), (Nat.le_of_ble_eq_true rfl)⟩ (Nat.le_of_ble_eq_true rfl) ⟨(Nat.le_of_ble_eq_true rfl), (Nat.le_of_ble_eq_true rfl)⟩ ?_
      obtain ⟨le154, hs153, h⟩ := zoS_s h
      obtain ⟨hi155, h⟩ := zoI_s h
      refine zr_iast F zd_MReader_texture_93 (zW_a0 hs153) hi155 ?_
      obtain ⟨mm156, emm156, h⟩ := zoL_s h
      refine zr_norm (zW tA b sh mm156) _ (by rw [emm156]; exact zW_s0 hs153) rfl ?_
      refine zr_aload_n F zd_MReader_texture_94 rfl ?_
      refine zr_bipushv (v := 44) F zd_MReader_texture_95 (by decide) ?_
      obtain ⟨le158, hs157, h⟩ := zoS_s h
      obtain ⟨p159, ep159, h⟩ := zoB_s h
      refine zr_callV0 F (k_MReader_sign l D tA b sh _ ep159) zd_MReader_texture_97 (zW_o hs157 (by decide)) rfl zs_MReader_55 rfl zq_MReader_sign rfl rfl ⟨(Nat.le_of_ble_eq_true rfl), (Nat.le_of_ble_eq_true rfl)⟩ (Nat.le_of_ble_eq_true rfl) ⟨(Nat.le_of_ble_eq_true rfl), (Nat.le_of_ble_eq_true rfl)⟩ ?_
      refine zr_iconstv (v := 3) F zd_MReader_texture_100 (by decide) ?_
      refine zr_aload_n F zd_MReader_texture_101 rfl ?_
      refine zr_pcn 102 rfl ?_
      obtain ⟨le161, hs160, h⟩ := zoS_s h
      obtain ⟨a162, ea162, h⟩ := zoB_s h
      refine zr_get F 15 5 zd_MReader_texture_102 (zW_o hs160 (by decide)) rfl (by decide) zw_1332 rfl (by rfl) ?_
      refine zr_tor ea162 ?_
      refine zr_iload_n F zd_MReader_texture_105 rfl ?_
      obtain ⟨le164, hs163, h⟩ := zoS_s h
      obtain ⟨hi165, h⟩ := zoI_s h
      refine zr_iald F zd_MReader_texture_106 (zW_a0 hs163) hi165 ?_
      refine zr_imul F zd_MReader_texture_107 ?_
      refine zr_aload_n F zd_MReader_texture_108 rfl ?_
      obtain ⟨le167, hs166, h⟩ := zoS_s h
      obtain ⟨a168, ea168, h⟩ := zoB_s h
      refine zr_get F 15 5 zd_MReader_texture_109 (zW_o hs166 (by decide)) rfl (by decide) zw_1332 rfl (by rfl) ?_
      refine zr_tor ea168 ?_
      refine zr_iload_n F zd_MReader_texture_112 rfl ?_
      obtain ⟨le170, hs169, h⟩ := zoS_s h
      obtain ⟨hi171, h⟩ := zoI_s h
      refine zr_iald F zd_MReader_texture_113 (zW_a0 hs169) hi171 ?_
      refine zr_pcn 114 rfl ?_
      refine zr_imul F zd_MReader_texture_114 ?_
      obtain ⟨x172, ex172, h⟩ := zoL_s h
      rw [← ex172]
      refine zr_istore_n F zd_MReader_texture_115 (by decide) ?_
      refine zr_aload_n F zd_MReader_texture_116 rfl ?_
      refine zr_ldcS F 45 "texels" zd_MReader_texture_117 (by decide +kernel) ?_
      refine zr_aload_n F zd_MReader_texture_119 rfl ?_
      obtain ⟨le174, hs173, h⟩ := zoS_s h
      obtain ⟨a175, ea175, h⟩ := zoB_s h
      refine zr_get F 15 8 zd_MReader_texture_120 (zW_o hs173 (by decide)) rfl (by decide) zw_1341 rfl (by rfl) ?_
      refine zr_tor ea175 ?_
      refine zr_sipushv (v := 4095) F zd_MReader_texture_123 (by decide) ?_
      refine zr_iload_n F zd_MReader_texture_126 rfl ?_
      refine zr_pcn 127 rfl ?_
      refine zr_imul F zd_MReader_texture_127 ?_
      refine zr_iconstv (v := 0) F zd_MReader_texture_128 (by decide) ?_
      refine zr_iload_n F zd_MReader_texture_129 rfl ?_
      refine zr_iload_n F zd_MReader_texture_130 rfl ?_
      refine zr_iconstv (v := 1) F zd_MReader_texture_131 (by decide) ?_
      refine zr_iconstv (v := 0) F zd_MReader_texture_132 (by decide) ?_
      obtain ⟨le177, hs176, h⟩ := zoS_s h
      obtain ⟨p178, ep178, h⟩ := zoB_s h
      refine zr_callV0 F (k_MReader_numbers l D tA b sh _ ep178) zd_MReader_texture_133 (zW_o hs176 (by decide)) rfl zs_MReader_110 rfl zq_MReader_numbers rfl rfl ⟨(Nat.le_of_ble_eq_true rfl), (Nat.le_of_ble_eq_true rfl)⟩ (Nat.le_of_ble_eq_true rfl) ⟨(Nat.le_of_ble_eq_true rfl), (Nat.le_of_ble_eq_true rfl)⟩ ?_
      obtain rfl := Option.some.inj h
      exact zr_vret F hr zd_MReader_texture_136 (Nat.le_of_ble_eq_true rfl) (Nat.le_of_ble_eq_true rfl) ⟨rfl, rfl, rfl⟩
abbrev zb_MReader_material : ByteArray := prog_17_method_16_code
def zy_MReader_material : MethodName := ⟨"OrreryBoxModel$Reader", "material", "(I)V"⟩
theorem zc_MReader_material : Cond.code zy_MReader_material zb_MReader_material 2 none ∈ gw := gw_t 1861 (by decide +kernel) rfl
theorem zq_MReader_material : zy_MReader_material.cls ≠ "java/lang/invoke/MethodHandle" ∧ zy_MReader_material.cls ≠ "java/lang/invoke/VarHandle" ∧ (parseMethodDescriptor zy_MReader_material.desc).map (fun d => d.parameters.length) = some 1 := by decide +kernel
theorem zd_MReader_material_0 : decode zb_MReader_material 0 = .ok (.aload_n 0, 1) := by decide +kernel
theorem zd_MReader_material_1 : decode zb_MReader_material 1 = .ok (.ldc 138, 2) := by decide +kernel
theorem zd_MReader_material_3 : decode zb_MReader_material 3 = .ok (.aload_n 0, 1) := by decide +kernel
theorem zd_MReader_material_4 : decode zb_MReader_material 4 = .ok (.getfield 13, 3) := by decide +kernel
theorem zd_MReader_material_7 : decode zb_MReader_material 7 = .ok (.getfield 140, 3) := by decide +kernel
theorem zd_MReader_material_10 : decode zb_MReader_material 10 = .ok (.iconst 4, 1) := by decide +kernel
theorem zd_MReader_material_11 : decode zb_MReader_material 11 = .ok (.iload_n 1, 1) := by decide +kernel
theorem zd_MReader_material_12 : decode zb_MReader_material 12 = .ok (.imul, 1) := by decide +kernel
theorem zd_MReader_material_13 : decode zb_MReader_material 13 = .ok (.iconst 0, 1) := by decide +kernel
theorem zd_MReader_material_14 : decode zb_MReader_material 14 = .ok (.iconst 4, 1) := by decide +kernel
theorem zd_MReader_material_15 : decode zb_MReader_material 15 = .ok (.iconst 4, 1) := by decide +kernel
theorem zd_MReader_material_16 : decode zb_MReader_material 16 = .ok (.iconst 1, 1) := by decide +kernel
theorem zd_MReader_material_17 : decode zb_MReader_material 17 = .ok (.iconst 0, 1) := by decide +kernel
theorem zd_MReader_material_18 : decode zb_MReader_material 18 = .ok (.invokevirtual 110, 3) := by decide +kernel
theorem zd_MReader_material_21 : decode zb_MReader_material 21 = .ok (.aload_n 0, 1) := by decide +kernel
theorem zd_MReader_material_22 : decode zb_MReader_material 22 = .ok (.bipush 44, 2) := by decide +kernel
theorem zd_MReader_material_24 : decode zb_MReader_material 24 = .ok (.invokevirtual 55, 3) := by decide +kernel
theorem zd_MReader_material_27 : decode zb_MReader_material 27 = .ok (.aload_n 0, 1) := by decide +kernel
theorem zd_MReader_material_28 : decode zb_MReader_material 28 = .ok (.getfield 13, 3) := by decide +kernel
theorem zd_MReader_material_31 : decode zb_MReader_material 31 = .ok (.getfield 142, 3) := by decide +kernel
theorem zd_MReader_material_34 : decode zb_MReader_material 34 = .ok (.iload_n 1, 1) := by decide +kernel
theorem zd_MReader_material_35 : decode zb_MReader_material 35 = .ok (.aload_n 0, 1) := by decide +kernel
theorem zd_MReader_material_36 : decode zb_MReader_material 36 = .ok (.ldc 145, 2) := by decide +kernel
theorem zd_MReader_material_38 : decode zb_MReader_material 38 = .ok (.iconst (-1), 1) := by decide +kernel
theorem zd_MReader_material_39 : decode zb_MReader_material 39 = .ok (.aload_n 0, 1) := by decide +kernel
theorem zd_MReader_material_40 : decode zb_MReader_material 40 = .ok (.getfield 13, 3) := by decide +kernel
theorem zd_MReader_material_43 : decode zb_MReader_material 43 = .ok (.getfield 146, 3) := by decide +kernel
theorem zd_MReader_material_46 : decode zb_MReader_material 46 = .ok (.iconst 1, 1) := by decide +kernel
theorem zd_MReader_material_47 : decode zb_MReader_material 47 = .ok (.isub, 1) := by decide +kernel
theorem zd_MReader_material_48 : decode zb_MReader_material 48 = .ok (.invokevirtual 121, 3) := by decide +kernel
theorem zd_MReader_material_51 : decode zb_MReader_material 51 = .ok (.iastore, 1) := by decide +kernel
theorem zd_MReader_material_52 : decode zb_MReader_material 52 = .ok (.aload_n 0, 1) := by decide +kernel
theorem zd_MReader_material_53 : decode zb_MReader_material 53 = .ok (.bipush 44, 2) := by decide +kernel
theorem zd_MReader_material_55 : decode zb_MReader_material 55 = .ok (.invokevirtual 55, 3) := by decide +kernel
theorem zd_MReader_material_58 : decode zb_MReader_material 58 = .ok (.aload_n 0, 1) := by decide +kernel
theorem zd_MReader_material_59 : decode zb_MReader_material 59 = .ok (.getfield 13, 3) := by decide +kernel
theorem zd_MReader_material_62 : decode zb_MReader_material 62 = .ok (.getfield 149, 3) := by decide +kernel
theorem zd_MReader_material_65 : decode zb_MReader_material 65 = .ok (.iload_n 1, 1) := by decide +kernel
theorem zd_MReader_material_66 : decode zb_MReader_material 66 = .ok (.aload_n 0, 1) := by decide +kernel
theorem zd_MReader_material_67 : decode zb_MReader_material 67 = .ok (.ldc 152, 2) := by decide +kernel
theorem zd_MReader_material_69 : decode zb_MReader_material 69 = .ok (.iconst 0, 1) := by decide +kernel
theorem zd_MReader_material_70 : decode zb_MReader_material 70 = .ok (.iconst 1, 1) := by decide +kernel
theorem zd_MReader_material_71 : decode zb_MReader_material 71 = .ok (.invokevirtual 121, 3) := by decide +kernel
theorem zd_MReader_material_74 : decode zb_MReader_material 74 = .ok (.iastore, 1) := by decide +kernel
theorem zd_MReader_material_75 : decode zb_MReader_material 75 = .ok (.return_, 1) := by decide +kernel
theorem zw_1344 : (Jvm.Cond.fieldLink "OrreryBoxModel$Reader" (140 : Nat) "OrreryBoxModel$Scene" "colour" "[I") ∈ gw := gw_t 1344 (by decide +kernel) rfl
theorem zw_1347 : (Jvm.Cond.fieldLink "OrreryBoxModel$Reader" (142 : Nat) "OrreryBoxModel$Scene" "texture" "[I") ∈ gw := gw_t 1347 (by decide +kernel) rfl
theorem zw_1317 : (Jvm.Cond.fieldLink "OrreryBoxModel$Reader" (146 : Nat) "OrreryBoxModel$Scene" "textures" "I") ∈ gw := gw_t 1317 (by decide +kernel) rfl
theorem zw_1350 : (Jvm.Cond.fieldLink "OrreryBoxModel$Reader" (149 : Nat) "OrreryBoxModel$Scene" "both" "[I") ∈ gw := gw_t 1350 (by decide +kernel) rfl
def F_MReader_material (sh : zSh) (mm : zMem) (o : Nat) (x0_ : Int32) : Option zMem := zoS (sh o) 14 (fun le2 => Option.bind (mm.2.2 o 1) (fun a3 => zoS (sh a3) 15 (fun le5 => Option.bind (mm.2.2 a3 9) (fun a6 => zoS (sh o) 14 (fun le8 => Option.bind (F_MReader_numbers sh mm o 46 a6 (4 * x0_) 0 4 4 1 0) (fun p9 => zoS (sh o) 14 (fun le11 => Option.bind (F_MReader_sign sh p9 o 44) (fun p12 => zoS (sh o) 14 (fun le14 => Option.bind (p12.2.2 o 1) (fun a15 => zoS (sh a15) 15 (fun le17 => Option.bind (p12.2.2 a15 10) (fun a18 => zoS (sh o) 14 (fun le20 => Option.bind (p12.2.2 o 1) (fun a21 => zoS (sh a21) 15 (fun le23 => zoS (sh o) 14 (fun le25 => Option.bind (F_MReader_single sh p12 o 47 (-1) ((p12.1 a21 0) - 1)) (fun p26 => zoS (sh a18) 100 (fun le28 => if (x0_ : Int32) < 0 ∨ le28 ≤ (x0_ : Int32).toNatClampNeg then none else zoL (mI (p26.2) a18 (x0_ : Int32).toNatClampNeg (p26.1)) (fun mm30 => zoS (sh o) 14 (fun le32 => Option.bind (F_MReader_sign sh mm30 o 44) (fun p33 => zoS (sh o) 14 (fun le35 => Option.bind (p33.2.2 o 1) (fun a36 => zoS (sh a36) 15 (fun le38 => Option.bind (p33.2.2 a36 11) (fun a39 => zoS (sh o) 14 (fun le41 => Option.bind (F_MReader_single sh p33 o 48 0 1) (fun p42 => zoS (sh a39) 100 (fun le44 => if (x0_ : Int32) < 0 ∨ le44 ≤ (x0_ : Int32).toNatClampNeg then none else zoL (mI (p42.2) a39 (x0_ : Int32).toNatClampNeg (p42.1)) (fun mm46 => some mm46)))))))))))))))))))))))))))))
set_option maxHeartbeats 4000000 in
set_option maxRecDepth 100000 in
theorem k_MReader_material (l : Launch) (D : va_G) (tA : Nat → ClassId) (b : Nat) (sh : zSh) (n : Nat) {mm : zMem} {o : Nat} {x0_ : Int32} {r : zMem} (h : F_MReader_material sh mm o x0_ = some r) : zM l D tA b zy_MReader_material zb_MReader_material 2 none 7 157 0 0 [.ref (b + o), .int x0_] (zW tA b sh mm) n (zE none (zW tA b sh r) n) := by
  unfold F_MReader_material at h
  refine zM_of (own := "OrreryBoxModel$Reader") (plainFor_of_name (by decide)) rfl (Nat.le_of_ble_eq_true rfl) (fun p e s m below meth c F hr hin hH => ?_)
  refine zr_aload_n F zd_MReader_material_0 rfl ?_
  refine zr_ldcS F 46 "colour" zd_MReader_material_1 (by decide +kernel) ?_
  refine zr_aload_n F zd_MReader_material_3 rfl ?_
  obtain ⟨le2, hs1, h⟩ := zoS_s h
  obtain ⟨a3, ea3, h⟩ := zoB_s h
  refine zr_get F 14 1 zd_MReader_material_4 (zW_o hs1 (by decide)) rfl (by decide) zw_1505 rfl (by rfl) ?_
  refine zr_tor ea3 ?_
  obtain ⟨le5, hs4, h⟩ := zoS_s h
  obtain ⟨a6, ea6, h⟩ := zoB_s h
  refine zr_get F 15 9 zd_MReader_material_7 (zW_o hs4 (by decide)) rfl (by decide) zw_1344 rfl (by rfl) ?_
  refine zr_tor ea6 ?_
  refine zr_iconstv (v := 4) F zd_MReader_material_10 (by decide) ?_
  refine zr_iload_n F zd_MReader_material_11 rfl ?_
  refine zr_pcn 12 rfl ?_
  refine zr_imul F zd_MReader_material_12 ?_
  refine zr_iconstv (v := 0) F zd_MReader_material_13 (by decide) ?_
  refine zr_iconstv (v := 4) F zd_MReader_material_14 (by decide) ?_
  refine zr_iconstv (v := 4) F zd_MReader_material_15 (by decide) ?_
  refine zr_iconstv (v := 1) F zd_MReader_material_16 (by decide) ?_
  refine zr_iconstv (v := 0) F zd_MReader_material_17 (by decide) ?_
  obtain ⟨le8, hs7, h⟩ := zoS_s h
  obtain ⟨p9, ep9, h⟩ := zoB_s h
  refine zr_callV0 F (k_MReader_numbers l D tA b sh _ ep9) zd_MReader_material_18 (zW_o hs7 (by decide)) rfl zs_MReader_110 rfl zq_MReader_numbers rfl rfl ⟨(Nat.le_of_ble_eq_true rfl), (Nat.le_of_ble_eq_true rfl)⟩ (Nat.le_of_ble_eq_true rfl) ⟨(Nat.le_of_ble_eq_true rfl), (Nat.le_of_ble_eq_true rfl)⟩ ?_
  refine zr_aload_n F zd_MReader_material_21 rfl ?_
  refine zr_pcn 22 rfl ?_
  refine zr_bipushv (v := 44) F zd_MReader_material_22 (by decide) ?_
  obtain ⟨le11, hs10, h⟩ := zoS_s h
  obtain ⟨p12, ep12, h⟩ := zoB_s h
  refine zr_callV0 F (k_MReader_sign l D tA b sh _ ep12) zd_MReader_material_24 (zW_o hs10 (by decide)) rfl zs_MReader_55 rfl zq_MReader_sign rfl rfl ⟨(Nat.le_of_ble_eq_true rfl), (Nat.le_of_ble_eq_true rfl)⟩ (Nat.le_of_ble_eq_true rfl) ⟨(Nat.le_of_ble_eq_true rfl), (Nat.le_of_ble_eq_true rfl)⟩ ?_
  refine zr_aload_n F zd_MReader_material_27 rfl ?_
  obtain ⟨le14, hs13, h⟩ := zoS_s h
  obtain ⟨a15, ea15, h⟩ := zoB_s h
  refine zr_get F 14 1 zd_MReader_material_28 (zW_o hs13 (by decide)) rfl (by decide) zw_1505 rfl (by rfl) ?_
  refine zr_tor ea15 ?_
  obtain ⟨le17, hs16, h⟩ := zoS_s h
  obtain ⟨a18, ea18, h⟩ := zoB_s h
  refine zr_get F 15 10 zd_MReader_material_31 (zW_o hs16 (by decide)) rfl (by decide) zw_1347 rfl (by rfl) ?_
  refine zr_tor ea18 ?_
  refine zr_iload_n F zd_MReader_material_34 rfl ?_
  refine zr_aload_n F zd_MReader_material_35 rfl ?_
  refine zr_ldcS F 47 "texture" zd_MReader_material_36 (by decide +kernel) ?_
  refine zr_pcn 38 rfl ?_
  refine zr_iconstv (v := (-1)) F zd_MReader_material_38 (by decide) ?_
  refine zr_aload_n F zd_MReader_material_39 rfl ?_
  obtain ⟨le20, hs19, h⟩ := zoS_s h
  obtain ⟨a21, ea21, h⟩ := zoB_s h
  refine zr_get F 14 1 zd_MReader_material_40 (zW_o hs19 (by decide)) rfl (by decide) zw_1505 rfl (by rfl) ?_
  refine zr_tor ea21 ?_
  obtain ⟨le23, hs22, h⟩ := zoS_s h
  refine zr_get F 15 0 zd_MReader_material_43 (zW_o hs22 (by decide)) rfl (by decide) zw_1317 rfl (by rfl) ?_
  refine zr_iconstv (v := 1) F zd_MReader_material_46 (by decide) ?_
  refine zr_isub F zd_MReader_material_47 ?_
  obtain ⟨le25, hs24, h⟩ := zoS_s h
  obtain ⟨p26, ep26, h⟩ := zoB_s h
  refine zr_callV1 F (k_MReader_single l D tA b sh _ ep26) zd_MReader_material_48 (zW_o hs24 (by decide)) rfl zs_MReader_121 rfl zq_MReader_single rfl rfl ⟨(Nat.le_of_ble_eq_true rfl), (Nat.le_of_ble_eq_true rfl)⟩ (Nat.le_of_ble_eq_true rfl) ⟨(Nat.le_of_ble_eq_true rfl), (Nat.le_of_ble_eq_true rfl)⟩ ?_
  obtain ⟨le28, hs27, h⟩ := zoS_s h
  obtain ⟨hi29, h⟩ := zoI_s h
  refine zr_iast F zd_MReader_material_51 (zW_a0 hs27) hi29 ?_
  obtain ⟨mm30, emm30, h⟩ := zoL_s h
  refine zr_norm (zW tA b sh mm30) _ (by rw [emm30]; exact zW_s0 hs27) rfl ?_
  refine zr_pcn 52 rfl ?_
  refine zr_aload_n F zd_MReader_material_52 rfl ?_
  refine zr_bipushv (v := 44) F zd_MReader_material_53 (by decide) ?_
  obtain ⟨le32, hs31, h⟩ := zoS_s h
  obtain ⟨p33, ep33, h⟩ := zoB_s h
  refine zr_callV0 F (k_MReader_sign l D tA b sh _ ep33) zd_MReader_material_55 (zW_o hs31 (by decide)) rfl zs_MReader_55 rfl zq_MReader_sign rfl rfl ⟨(Nat.le_of_ble_eq_true rfl), (Nat.le_of_ble_eq_true rfl)⟩ (Nat.le_of_ble_eq_true rfl) ⟨(Nat.le_of_ble_eq_true rfl), (Nat.le_of_ble_eq_true rfl)⟩ ?_
  refine zr_aload_n F zd_MReader_material_58 rfl ?_
  obtain ⟨le35, hs34, h⟩ := zoS_s h
  obtain ⟨a36, ea36, h⟩ := zoB_s h
  refine zr_get F 14 1 zd_MReader_material_59 (zW_o hs34 (by decide)) rfl (by decide) zw_1505 rfl (by rfl) ?_
  refine zr_tor ea36 ?_
  obtain ⟨le38, hs37, h⟩ := zoS_s h
  obtain ⟨a39, ea39, h⟩ := zoB_s h
  refine zr_get F 15 11 zd_MReader_material_62 (zW_o hs37 (by decide)) rfl (by decide) zw_1350 rfl (by rfl) ?_
  refine zr_tor ea39 ?_
  refine zr_iload_n F zd_MReader_material_65 rfl ?_
  refine zr_aload_n F zd_MReader_material_66 rfl ?_
  refine zr_pcn 67 rfl ?_
  refine zr_ldcS F 48 "both" zd_MReader_material_67 (by decide +kernel) ?_
  refine zr_iconstv (v := 0) F zd_MReader_material_69 (by decide) ?_
  refine zr_iconstv (v := 1) F zd_MReader_material_70 (by decide) ?_
  obtain ⟨le41, hs40, h⟩ := zoS_s h
  obtain ⟨p42, ep42, h⟩ := zoB_s h
  refine zr_callV1 F (k_MReader_single l D tA b sh _ ep42) zd_MReader_material_71 (zW_o hs40 (by decide)) rfl zs_MReader_121 rfl zq_MReader_single rfl rfl ⟨(Nat.le_of_ble_eq_true rfl), (Nat.le_of_ble_eq_true rfl)⟩ (Nat.le_of_ble_eq_true rfl) ⟨(Nat.le_of_ble_eq_true rfl), (Nat.le_of_ble_eq_true rfl)⟩ ?_
  obtain ⟨le44, hs43, h⟩ := zoS_s h
  obtain ⟨hi45, h⟩ := zoI_s h
  refine zr_iast F zd_MReader_material_74 (zW_a0 hs43) hi45 ?_
  obtain ⟨mm46, emm46, h⟩ := zoL_s h
  refine zr_norm (zW tA b sh mm46) _ (by rw [emm46]; exact zW_s0 hs43) rfl ?_
  obtain rfl := Option.some.inj h
  exact zr_vret F hr zd_MReader_material_75 (Nat.le_of_ble_eq_true rfl) (Nat.le_of_ble_eq_true rfl) ⟨rfl, rfl, rfl⟩
abbrev zb_MReader_mesh : ByteArray := prog_17_method_17_code
def zy_MReader_mesh : MethodName := ⟨"OrreryBoxModel$Reader", "mesh", "(I)V"⟩
theorem zc_MReader_mesh : Cond.code zy_MReader_mesh zb_MReader_mesh 4 none ∈ gw := gw_t 1868 (by decide +kernel) rfl
theorem zq_MReader_mesh : zy_MReader_mesh.cls ≠ "java/lang/invoke/MethodHandle" ∧ zy_MReader_mesh.cls ≠ "java/lang/invoke/VarHandle" ∧ (parseMethodDescriptor zy_MReader_mesh.desc).map (fun d => d.parameters.length) = some 1 := by decide +kernel
theorem zd_MReader_mesh_0 : decode zb_MReader_mesh 0 = .ok (.aload_n 0, 1) := by decide +kernel
theorem zd_MReader_mesh_1 : decode zb_MReader_mesh 1 = .ok (.getfield 13, 3) := by decide +kernel
theorem zd_MReader_mesh_4 : decode zb_MReader_mesh 4 = .ok (.astore_n 2, 1) := by decide +kernel
theorem zd_MReader_mesh_5 : decode zb_MReader_mesh 5 = .ok (.aload_n 2, 1) := by decide +kernel
theorem zd_MReader_mesh_6 : decode zb_MReader_mesh 6 = .ok (.getfield 153, 3) := by decide +kernel
theorem zd_MReader_mesh_9 : decode zb_MReader_mesh 9 = .ok (.iload_n 1, 1) := by decide +kernel
theorem zd_MReader_mesh_10 : decode zb_MReader_mesh 10 = .ok (.aload_n 0, 1) := by decide +kernel
theorem zd_MReader_mesh_11 : decode zb_MReader_mesh 11 = .ok (.ldc 156, 2) := by decide +kernel
theorem zd_MReader_mesh_13 : decode zb_MReader_mesh 13 = .ok (.iconst 0, 1) := by decide +kernel
theorem zd_MReader_mesh_14 : decode zb_MReader_mesh 14 = .ok (.aload_n 2, 1) := by decide +kernel
theorem zd_MReader_mesh_15 : decode zb_MReader_mesh 15 = .ok (.getfield 157, 3) := by decide +kernel
theorem zd_MReader_mesh_18 : decode zb_MReader_mesh 18 = .ok (.iconst 1, 1) := by decide +kernel
theorem zd_MReader_mesh_19 : decode zb_MReader_mesh 19 = .ok (.isub, 1) := by decide +kernel
theorem zd_MReader_mesh_20 : decode zb_MReader_mesh 20 = .ok (.invokevirtual 121, 3) := by decide +kernel
theorem zd_MReader_mesh_23 : decode zb_MReader_mesh 23 = .ok (.iastore, 1) := by decide +kernel
theorem zd_MReader_mesh_24 : decode zb_MReader_mesh 24 = .ok (.aload_n 0, 1) := by decide +kernel
theorem zd_MReader_mesh_25 : decode zb_MReader_mesh 25 = .ok (.bipush 44, 2) := by decide +kernel
theorem zd_MReader_mesh_27 : decode zb_MReader_mesh 27 = .ok (.invokevirtual 55, 3) := by decide +kernel
theorem zd_MReader_mesh_30 : decode zb_MReader_mesh 30 = .ok (.aload_n 0, 1) := by decide +kernel
theorem zd_MReader_mesh_31 : decode zb_MReader_mesh 31 = .ok (.ldc 160, 2) := by decide +kernel
theorem zd_MReader_mesh_33 : decode zb_MReader_mesh 33 = .ok (.aload_n 2, 1) := by decide +kernel
theorem zd_MReader_mesh_34 : decode zb_MReader_mesh 34 = .ok (.getfield 162, 3) := by decide +kernel
theorem zd_MReader_mesh_37 : decode zb_MReader_mesh 37 = .ok (.sipush 384, 3) := by decide +kernel
theorem zd_MReader_mesh_40 : decode zb_MReader_mesh 40 = .ok (.iload_n 1, 1) := by decide +kernel
theorem zd_MReader_mesh_41 : decode zb_MReader_mesh 41 = .ok (.imul, 1) := by decide +kernel
theorem zd_MReader_mesh_42 : decode zb_MReader_mesh 42 = .ok (.iconst 1, 1) := by decide +kernel
theorem zd_MReader_mesh_43 : decode zb_MReader_mesh 43 = .ok (.iconst 3, 1) := by decide +kernel
theorem zd_MReader_mesh_44 : decode zb_MReader_mesh 44 = .ok (.sipush 384, 3) := by decide +kernel
theorem zd_MReader_mesh_47 : decode zb_MReader_mesh 47 = .ok (.iconst 3, 1) := by decide +kernel
theorem zd_MReader_mesh_48 : decode zb_MReader_mesh 48 = .ok (.iconst 0, 1) := by decide +kernel
theorem zd_MReader_mesh_49 : decode zb_MReader_mesh 49 = .ok (.invokevirtual 110, 3) := by decide +kernel
theorem zd_MReader_mesh_52 : decode zb_MReader_mesh 52 = .ok (.aload_n 0, 1) := by decide +kernel
theorem zd_MReader_mesh_53 : decode zb_MReader_mesh 53 = .ok (.getfield 103, 3) := by decide +kernel
theorem zd_MReader_mesh_56 : decode zb_MReader_mesh 56 = .ok (.iconst 3, 1) := by decide +kernel
theorem zd_MReader_mesh_57 : decode zb_MReader_mesh 57 = .ok (.idiv, 1) := by decide +kernel
theorem zd_MReader_mesh_58 : decode zb_MReader_mesh 58 = .ok (.istore_n 3, 1) := by decide +kernel
theorem zd_MReader_mesh_59 : decode zb_MReader_mesh 59 = .ok (.aload_n 2, 1) := by decide +kernel
theorem zd_MReader_mesh_60 : decode zb_MReader_mesh 60 = .ok (.getfield 165, 3) := by decide +kernel
theorem zd_MReader_mesh_63 : decode zb_MReader_mesh 63 = .ok (.iload_n 1, 1) := by decide +kernel
theorem zd_MReader_mesh_64 : decode zb_MReader_mesh 64 = .ok (.iload_n 3, 1) := by decide +kernel
theorem zd_MReader_mesh_65 : decode zb_MReader_mesh 65 = .ok (.iastore, 1) := by decide +kernel
theorem zd_MReader_mesh_66 : decode zb_MReader_mesh 66 = .ok (.aload_n 0, 1) := by decide +kernel
theorem zd_MReader_mesh_67 : decode zb_MReader_mesh 67 = .ok (.bipush 44, 2) := by decide +kernel
theorem zd_MReader_mesh_69 : decode zb_MReader_mesh 69 = .ok (.invokevirtual 55, 3) := by decide +kernel
theorem zd_MReader_mesh_72 : decode zb_MReader_mesh 72 = .ok (.aload_n 0, 1) := by decide +kernel
theorem zd_MReader_mesh_73 : decode zb_MReader_mesh 73 = .ok (.ldc 167, 2) := by decide +kernel
theorem zd_MReader_mesh_75 : decode zb_MReader_mesh 75 = .ok (.aload_n 2, 1) := by decide +kernel
theorem zd_MReader_mesh_76 : decode zb_MReader_mesh 76 = .ok (.getfield 169, 3) := by decide +kernel
theorem zd_MReader_mesh_79 : decode zb_MReader_mesh 79 = .ok (.sipush 384, 3) := by decide +kernel
theorem zd_MReader_mesh_82 : decode zb_MReader_mesh 82 = .ok (.iload_n 1, 1) := by decide +kernel
theorem zd_MReader_mesh_83 : decode zb_MReader_mesh 83 = .ok (.imul, 1) := by decide +kernel
theorem zd_MReader_mesh_84 : decode zb_MReader_mesh 84 = .ok (.iconst 2, 1) := by decide +kernel
theorem zd_MReader_mesh_85 : decode zb_MReader_mesh 85 = .ok (.iconst 3, 1) := by decide +kernel
theorem zd_MReader_mesh_86 : decode zb_MReader_mesh 86 = .ok (.iload_n 3, 1) := by decide +kernel
theorem zd_MReader_mesh_87 : decode zb_MReader_mesh 87 = .ok (.imul, 1) := by decide +kernel
theorem zd_MReader_mesh_88 : decode zb_MReader_mesh 88 = .ok (.iconst 3, 1) := by decide +kernel
theorem zd_MReader_mesh_89 : decode zb_MReader_mesh 89 = .ok (.iload_n 3, 1) := by decide +kernel
theorem zd_MReader_mesh_90 : decode zb_MReader_mesh 90 = .ok (.imul, 1) := by decide +kernel
theorem zd_MReader_mesh_91 : decode zb_MReader_mesh 91 = .ok (.iconst 1, 1) := by decide +kernel
theorem zd_MReader_mesh_92 : decode zb_MReader_mesh 92 = .ok (.iconst 0, 1) := by decide +kernel
theorem zd_MReader_mesh_93 : decode zb_MReader_mesh 93 = .ok (.invokevirtual 110, 3) := by decide +kernel
theorem zd_MReader_mesh_96 : decode zb_MReader_mesh 96 = .ok (.aload_n 0, 1) := by decide +kernel
theorem zd_MReader_mesh_97 : decode zb_MReader_mesh 97 = .ok (.bipush 44, 2) := by decide +kernel
theorem zd_MReader_mesh_99 : decode zb_MReader_mesh 99 = .ok (.invokevirtual 55, 3) := by decide +kernel
theorem zd_MReader_mesh_102 : decode zb_MReader_mesh 102 = .ok (.aload_n 0, 1) := by decide +kernel
theorem zd_MReader_mesh_103 : decode zb_MReader_mesh 103 = .ok (.ldc 172, 2) := by decide +kernel
theorem zd_MReader_mesh_105 : decode zb_MReader_mesh 105 = .ok (.aload_n 2, 1) := by decide +kernel
theorem zd_MReader_mesh_106 : decode zb_MReader_mesh 106 = .ok (.getfield 174, 3) := by decide +kernel
theorem zd_MReader_mesh_109 : decode zb_MReader_mesh 109 = .ok (.sipush 256, 3) := by decide +kernel
theorem zd_MReader_mesh_112 : decode zb_MReader_mesh 112 = .ok (.iload_n 1, 1) := by decide +kernel
theorem zd_MReader_mesh_113 : decode zb_MReader_mesh 113 = .ok (.imul, 1) := by decide +kernel
theorem zd_MReader_mesh_114 : decode zb_MReader_mesh 114 = .ok (.iconst 3, 1) := by decide +kernel
theorem zd_MReader_mesh_115 : decode zb_MReader_mesh 115 = .ok (.iconst 2, 1) := by decide +kernel
theorem zd_MReader_mesh_116 : decode zb_MReader_mesh 116 = .ok (.iload_n 3, 1) := by decide +kernel
theorem zd_MReader_mesh_117 : decode zb_MReader_mesh 117 = .ok (.imul, 1) := by decide +kernel
theorem zd_MReader_mesh_118 : decode zb_MReader_mesh 118 = .ok (.iconst 2, 1) := by decide +kernel
theorem zd_MReader_mesh_119 : decode zb_MReader_mesh 119 = .ok (.iload_n 3, 1) := by decide +kernel
theorem zd_MReader_mesh_120 : decode zb_MReader_mesh 120 = .ok (.imul, 1) := by decide +kernel
theorem zd_MReader_mesh_121 : decode zb_MReader_mesh 121 = .ok (.iconst 1, 1) := by decide +kernel
theorem zd_MReader_mesh_122 : decode zb_MReader_mesh 122 = .ok (.iconst 0, 1) := by decide +kernel
theorem zd_MReader_mesh_123 : decode zb_MReader_mesh 123 = .ok (.invokevirtual 110, 3) := by decide +kernel
theorem zd_MReader_mesh_126 : decode zb_MReader_mesh 126 = .ok (.aload_n 0, 1) := by decide +kernel
theorem zd_MReader_mesh_127 : decode zb_MReader_mesh 127 = .ok (.bipush 44, 2) := by decide +kernel
theorem zd_MReader_mesh_129 : decode zb_MReader_mesh 129 = .ok (.invokevirtual 55, 3) := by decide +kernel
theorem zd_MReader_mesh_132 : decode zb_MReader_mesh 132 = .ok (.aload_n 0, 1) := by decide +kernel
theorem zd_MReader_mesh_133 : decode zb_MReader_mesh 133 = .ok (.ldc 177, 2) := by decide +kernel
theorem zd_MReader_mesh_135 : decode zb_MReader_mesh 135 = .ok (.aload_n 2, 1) := by decide +kernel
theorem zd_MReader_mesh_136 : decode zb_MReader_mesh 136 = .ok (.getfield 179, 3) := by decide +kernel
theorem zd_MReader_mesh_139 : decode zb_MReader_mesh 139 = .ok (.sipush 384, 3) := by decide +kernel
theorem zd_MReader_mesh_142 : decode zb_MReader_mesh 142 = .ok (.iload_n 1, 1) := by decide +kernel
theorem zd_MReader_mesh_143 : decode zb_MReader_mesh 143 = .ok (.imul, 1) := by decide +kernel
theorem zd_MReader_mesh_144 : decode zb_MReader_mesh 144 = .ok (.iconst 4, 1) := by decide +kernel
theorem zd_MReader_mesh_145 : decode zb_MReader_mesh 145 = .ok (.iconst 3, 1) := by decide +kernel
theorem zd_MReader_mesh_146 : decode zb_MReader_mesh 146 = .ok (.sipush 384, 3) := by decide +kernel
theorem zd_MReader_mesh_149 : decode zb_MReader_mesh 149 = .ok (.iconst 3, 1) := by decide +kernel
theorem zd_MReader_mesh_150 : decode zb_MReader_mesh 150 = .ok (.iload_n 3, 1) := by decide +kernel
theorem zd_MReader_mesh_151 : decode zb_MReader_mesh 151 = .ok (.invokevirtual 110, 3) := by decide +kernel
theorem zd_MReader_mesh_154 : decode zb_MReader_mesh 154 = .ok (.aload_n 2, 1) := by decide +kernel
theorem zd_MReader_mesh_155 : decode zb_MReader_mesh 155 = .ok (.getfield 182, 3) := by decide +kernel
theorem zd_MReader_mesh_158 : decode zb_MReader_mesh 158 = .ok (.iload_n 1, 1) := by decide +kernel
theorem zd_MReader_mesh_159 : decode zb_MReader_mesh 159 = .ok (.aload_n 0, 1) := by decide +kernel
theorem zd_MReader_mesh_160 : decode zb_MReader_mesh 160 = .ok (.getfield 103, 3) := by decide +kernel
theorem zd_MReader_mesh_163 : decode zb_MReader_mesh 163 = .ok (.iconst 3, 1) := by decide +kernel
theorem zd_MReader_mesh_164 : decode zb_MReader_mesh 164 = .ok (.idiv, 1) := by decide +kernel
theorem zd_MReader_mesh_165 : decode zb_MReader_mesh 165 = .ok (.iastore, 1) := by decide +kernel
theorem zd_MReader_mesh_166 : decode zb_MReader_mesh 166 = .ok (.return_, 1) := by decide +kernel
theorem zw_1354 : (Jvm.Cond.fieldLink "OrreryBoxModel$Reader" (153 : Nat) "OrreryBoxModel$Scene" "material" "[I") ∈ gw := gw_t 1354 (by decide +kernel) rfl
theorem zw_1320 : (Jvm.Cond.fieldLink "OrreryBoxModel$Reader" (157 : Nat) "OrreryBoxModel$Scene" "materials" "I") ∈ gw := gw_t 1320 (by decide +kernel) rfl
theorem zw_1361 : (Jvm.Cond.fieldLink "OrreryBoxModel$Reader" (162 : Nat) "OrreryBoxModel$Scene" "point" "[I") ∈ gw := gw_t 1361 (by decide +kernel) rfl
theorem zw_1356 : (Jvm.Cond.fieldLink "OrreryBoxModel$Reader" (165 : Nat) "OrreryBoxModel$Scene" "points" "[I") ∈ gw := gw_t 1356 (by decide +kernel) rfl
theorem zw_1364 : (Jvm.Cond.fieldLink "OrreryBoxModel$Reader" (169 : Nat) "OrreryBoxModel$Scene" "normal" "[I") ∈ gw := gw_t 1364 (by decide +kernel) rfl
theorem zw_1367 : (Jvm.Cond.fieldLink "OrreryBoxModel$Reader" (174 : Nat) "OrreryBoxModel$Scene" "spot" "[I") ∈ gw := gw_t 1367 (by decide +kernel) rfl
theorem zw_1370 : (Jvm.Cond.fieldLink "OrreryBoxModel$Reader" (179 : Nat) "OrreryBoxModel$Scene" "face" "[I") ∈ gw := gw_t 1370 (by decide +kernel) rfl
theorem zw_1358 : (Jvm.Cond.fieldLink "OrreryBoxModel$Reader" (182 : Nat) "OrreryBoxModel$Scene" "faces" "[I") ∈ gw := gw_t 1358 (by decide +kernel) rfl
def F_MReader_mesh (sh : zSh) (mm : zMem) (o : Nat) (x0_ : Int32) : Option zMem := zoS (sh o) 14 (fun le2 => Option.bind (mm.2.2 o 1) (fun a3 => zoS (sh a3) 15 (fun le5 => Option.bind (mm.2.2 a3 12) (fun a6 => zoS (sh a3) 15 (fun le8 => zoS (sh o) 14 (fun le10 => Option.bind (F_MReader_single sh mm o 49 0 ((mm.1 a3 1) - 1)) (fun p11 => zoS (sh a6) 100 (fun le13 => if (x0_ : Int32) < 0 ∨ le13 ≤ (x0_ : Int32).toNatClampNeg then none else zoL (mI (p11.2) a6 (x0_ : Int32).toNatClampNeg (p11.1)) (fun mm15 => zoS (sh o) 14 (fun le17 => Option.bind (F_MReader_sign sh mm15 o 44) (fun p18 => zoS (sh a3) 15 (fun le20 => Option.bind (p18.2.2 a3 15) (fun a21 => zoS (sh o) 14 (fun le23 => Option.bind (F_MReader_numbers sh p18 o 50 a21 (384 * x0_) 1 3 384 3 0) (fun p24 => zoS (sh o) 14 (fun le26 => zoL ((p24.1 o 9) / 3) (fun x27 => zoS (sh a3) 15 (fun le29 => Option.bind (p24.2.2 a3 13) (fun a30 => zoS (sh a30) 100 (fun le32 => if (x0_ : Int32) < 0 ∨ le32 ≤ (x0_ : Int32).toNatClampNeg then none else zoL (mI p24 a30 (x0_ : Int32).toNatClampNeg x27) (fun mm34 => zoS (sh o) 14 (fun le36 => Option.bind (F_MReader_sign sh mm34 o 44) (fun p37 => zoS (sh a3) 15 (fun le39 => Option.bind (p37.2.2 a3 16) (fun a40 => zoS (sh o) 14 (fun le42 => Option.bind (F_MReader_numbers sh p37 o 51 a40 (384 * x0_) 2 (3 * x27) (3 * x27) 1 0) (fun p43 => zoS (sh o) 14 (fun le45 => Option.bind (F_MReader_sign sh p43 o 44) (fun p46 => zoS (sh a3) 15 (fun le48 => Option.bind (p46.2.2 a3 17) (fun a49 => zoS (sh o) 14 (fun le51 => Option.bind (F_MReader_numbers sh p46 o 52 a49 (256 * x0_) 3 (2 * x27) (2 * x27) 1 0) (fun p52 => zoS (sh o) 14 (fun le54 => Option.bind (F_MReader_sign sh p52 o 44) (fun p55 => zoS (sh a3) 15 (fun le57 => Option.bind (p55.2.2 a3 18) (fun a58 => zoS (sh o) 14 (fun le60 => Option.bind (F_MReader_numbers sh p55 o 53 a58 (384 * x0_) 4 3 384 3 x27) (fun p61 => zoS (sh a3) 15 (fun le63 => Option.bind (p61.2.2 a3 14) (fun a64 => zoS (sh o) 14 (fun le66 => zoL ((p61.1 o 9) / 3) (fun x67 => zoS (sh a64) 100 (fun le69 => if (x0_ : Int32) < 0 ∨ le69 ≤ (x0_ : Int32).toNatClampNeg then none else zoL (mI p61 a64 (x0_ : Int32).toNatClampNeg x67) (fun mm71 => some mm71)))))))))))))))))))))))))))))))))))))))))))))
set_option maxHeartbeats 4000000 in
set_option maxRecDepth 100000 in
theorem k_MReader_mesh (l : Launch) (D : va_G) (tA : Nat → ClassId) (b : Nat) (sh : zSh) (n : Nat) {mm : zMem} {o : Nat} {x0_ : Int32} {r : zMem} (h : F_MReader_mesh sh mm o x0_ = some r) : zM l D tA b zy_MReader_mesh zb_MReader_mesh 4 none 7 157 0 0 [.ref (b + o), .int x0_] (zW tA b sh mm) n (zE none (zW tA b sh r) n) := by
  unfold F_MReader_mesh at h
  refine zM_of (own := "OrreryBoxModel$Reader") (plainFor_of_name (by decide)) rfl (Nat.le_of_ble_eq_true rfl) (fun p e s m below meth c F hr hin hH => ?_)
  refine zr_aload_n F zd_MReader_mesh_0 rfl ?_
  obtain ⟨le2, hs1, h⟩ := zoS_s h
  obtain ⟨a3, ea3, h⟩ := zoB_s h
  refine zr_get F 14 1 zd_MReader_mesh_1 (zW_o hs1 (by decide)) rfl (by decide) zw_1505 rfl (by rfl) ?_
  refine zr_tor ea3 ?_
  refine zr_astore_n F zd_MReader_mesh_4 (by decide) ?_
  refine zr_aload_n F zd_MReader_mesh_5 rfl ?_
  obtain ⟨le5, hs4, h⟩ := zoS_s h
  obtain ⟨a6, ea6, h⟩ := zoB_s h
  refine zr_get F 15 12 zd_MReader_mesh_6 (zW_o hs4 (by decide)) rfl (by decide) zw_1354 rfl (by rfl) ?_
  refine zr_tor ea6 ?_
  refine zr_iload_n F zd_MReader_mesh_9 rfl ?_
  refine zr_aload_n F zd_MReader_mesh_10 rfl ?_
  refine zr_pcn 11 rfl ?_
  refine zr_ldcS F 49 "material" zd_MReader_mesh_11 (by decide +kernel) ?_
  refine zr_iconstv (v := 0) F zd_MReader_mesh_13 (by decide) ?_
  refine zr_aload_n F zd_MReader_mesh_14 rfl ?_
  obtain ⟨le8, hs7, h⟩ := zoS_s h
  refine zr_get F 15 1 zd_MReader_mesh_15 (zW_o hs7 (by decide)) rfl (by decide) zw_1320 rfl (by rfl) ?_
  refine zr_iconstv (v := 1) F zd_MReader_mesh_18 (by decide) ?_
  refine zr_isub F zd_MReader_mesh_19 ?_
  obtain ⟨le10, hs9, h⟩ := zoS_s h
  obtain ⟨p11, ep11, h⟩ := zoB_s h
  refine zr_callV1 F (k_MReader_single l D tA b sh _ ep11) zd_MReader_mesh_20 (zW_o hs9 (by decide)) rfl zs_MReader_121 rfl zq_MReader_single rfl rfl ⟨(Nat.le_of_ble_eq_true rfl), (Nat.le_of_ble_eq_true rfl)⟩ (Nat.le_of_ble_eq_true rfl) ⟨(Nat.le_of_ble_eq_true rfl), (Nat.le_of_ble_eq_true rfl)⟩ ?_
  obtain ⟨le13, hs12, h⟩ := zoS_s h
  obtain ⟨hi14, h⟩ := zoI_s h
  refine zr_iast F zd_MReader_mesh_23 (zW_a0 hs12) hi14 ?_
  obtain ⟨mm15, emm15, h⟩ := zoL_s h
  refine zr_norm (zW tA b sh mm15) _ (by rw [emm15]; exact zW_s0 hs12) rfl ?_
  refine zr_pcn 24 rfl ?_
  refine zr_aload_n F zd_MReader_mesh_24 rfl ?_
  refine zr_bipushv (v := 44) F zd_MReader_mesh_25 (by decide) ?_
  obtain ⟨le17, hs16, h⟩ := zoS_s h
  obtain ⟨p18, ep18, h⟩ := zoB_s h
  refine zr_callV0 F (k_MReader_sign l D tA b sh _ ep18) zd_MReader_mesh_27 (zW_o hs16 (by decide)) rfl zs_MReader_55 rfl zq_MReader_sign rfl rfl ⟨(Nat.le_of_ble_eq_true rfl), (Nat.le_of_ble_eq_true rfl)⟩ (Nat.le_of_ble_eq_true rfl) ⟨(Nat.le_of_ble_eq_true rfl), (Nat.le_of_ble_eq_true rfl)⟩ ?_
  refine zr_aload_n F zd_MReader_mesh_30 rfl ?_
  refine zr_ldcS F 50 "points" zd_MReader_mesh_31 (by decide +kernel) ?_
  refine zr_aload_n F zd_MReader_mesh_33 rfl ?_
  obtain ⟨le20, hs19, h⟩ := zoS_s h
  obtain ⟨a21, ea21, h⟩ := zoB_s h
  refine zr_get F 15 15 zd_MReader_mesh_34 (zW_o hs19 (by decide)) rfl (by decide) zw_1361 rfl (by rfl) ?_
  refine zr_tor ea21 ?_
  refine zr_sipushv (v := 384) F zd_MReader_mesh_37 (by decide) ?_
  refine zr_pcn 40 rfl ?_
  refine zr_iload_n F zd_MReader_mesh_40 rfl ?_
  refine zr_imul F zd_MReader_mesh_41 ?_
  refine zr_iconstv (v := 1) F zd_MReader_mesh_42 (by decide) ?_
  refine zr_iconstv (v := 3) F zd_MReader_mesh_43 (by decide) ?_
  refine zr_sipushv (v := 384) F zd_MReader_mesh_44 (by decide) ?_
  refine zr_iconstv (v := 3) F zd_MReader_mesh_47 (by decide) ?_
  refine zr_iconstv (v := 0) F zd_MReader_mesh_48 (by decide) ?_
  obtain ⟨le23, hs22, h⟩ := zoS_s h
  obtain ⟨p24, ep24, h⟩ := zoB_s h
  refine zr_callV0 F (k_MReader_numbers l D tA b sh _ ep24) zd_MReader_mesh_49 (zW_o hs22 (by decide)) rfl zs_MReader_110 rfl zq_MReader_numbers rfl rfl ⟨(Nat.le_of_ble_eq_true rfl), (Nat.le_of_ble_eq_true rfl)⟩ (Nat.le_of_ble_eq_true rfl) ⟨(Nat.le_of_ble_eq_true rfl), (Nat.le_of_ble_eq_true rfl)⟩ ?_
  refine zr_pcn 52 rfl ?_
  refine zr_aload_n F zd_MReader_mesh_52 rfl ?_
  obtain ⟨le26, hs25, h⟩ := zoS_s h
  refine zr_get F 14 9 zd_MReader_mesh_53 (zW_o hs25 (by decide)) rfl (by decide) zw_1515 rfl (by rfl) ?_
  refine zr_iconstv (v := 3) F zd_MReader_mesh_56 (by decide) ?_
  refine zr_idiv F zd_MReader_mesh_57 (by decide) ?_
  obtain ⟨x27, ex27, h⟩ := zoL_s h
  rw [← ex27]
  refine zr_istore_n F zd_MReader_mesh_58 (by decide) ?_
  refine zr_aload_n F zd_MReader_mesh_59 rfl ?_
  obtain ⟨le29, hs28, h⟩ := zoS_s h
  obtain ⟨a30, ea30, h⟩ := zoB_s h
  refine zr_get F 15 13 zd_MReader_mesh_60 (zW_o hs28 (by decide)) rfl (by decide) zw_1356 rfl (by rfl) ?_
  refine zr_tor ea30 ?_
  refine zr_iload_n F zd_MReader_mesh_63 rfl ?_
  refine zr_pcn 64 rfl ?_
  refine zr_iload_n F zd_MReader_mesh_64 rfl ?_
  obtain ⟨le32, hs31, h⟩ := zoS_s h
  obtain ⟨hi33, h⟩ := zoI_s h
  refine zr_iast F zd_MReader_mesh_65 (zW_a0 hs31) hi33 ?_
  obtain ⟨mm34, emm34, h⟩ := zoL_s h
  refine zr_norm (zW tA b sh mm34) _ (by rw [emm34]; exact zW_s0 hs31) rfl ?_
  refine zr_aload_n F zd_MReader_mesh_66 rfl ?_
  refine zr_bipushv (v := 44) F zd_MReader_mesh_67 (by decide) ?_
  obtain ⟨le36, hs35, h⟩ := zoS_s h
  obtain ⟨p37, ep37, h⟩ := zoB_s h
  refine zr_callV0 F (k_MReader_sign l D tA b sh _ ep37) zd_MReader_mesh_69 (zW_o hs35 (by decide)) rfl zs_MReader_55 rfl zq_MReader_sign rfl rfl ⟨(Nat.le_of_ble_eq_true rfl), (Nat.le_of_ble_eq_true rfl)⟩ (Nat.le_of_ble_eq_true rfl) ⟨(Nat.le_of_ble_eq_true rfl), (Nat.le_of_ble_eq_true rfl)⟩ ?_
  refine zr_aload_n F zd_MReader_mesh_72 rfl ?_
  refine zr_ldcS F 51 "normals" zd_MReader_mesh_73 (by decide +kernel) ?_
  refine zr_aload_n F zd_MReader_mesh_75 rfl ?_
  refine zr_pcn 76 rfl ?_
  obtain ⟨le39, hs38, h⟩ := zoS_s h
  obtain ⟨a40, ea40, h⟩ := zoB_s h
  refine zr_get F 15 16 zd_MReader_mesh_76 (zW_o hs38 (by decide)) rfl (by decide) zw_1364 rfl (by rfl) ?_
  refine zr_tor ea40 ?_
  refine zr_sipushv (v := 384) F zd_MReader_mesh_79 (by decide) ?_
  refine zr_iload_n F zd_MReader_mesh_82 rfl ?_
  refine zr_imul F zd_MReader_mesh_83 ?_
  refine zr_iconstv (v := 2) F zd_MReader_mesh_84 (by decide) ?_
  refine zr_iconstv (v := 3) F zd_MReader_mesh_85 (by decide) ?_
  refine zr_iload_n F zd_MReader_mesh_86 rfl ?_
  refine zr_imul F zd_MReader_mesh_87 ?_
  refine zr_pcn 88 rfl ?_
  refine zr_iconstv (v := 3) F zd_MReader_mesh_88 (by decide) ?_
  refine zr_iload_n F zd_MReader_mesh_89 rfl ?_
  refine zr_imul F zd_MReader_mesh_90 ?_
  refine zr_iconstv (v := 1) F zd_MReader_mesh_91 (by decide) ?_
  refine zr_iconstv (v := 0) F zd_MReader_mesh_92 (by decide) ?_
  obtain ⟨le42, hs41, h⟩ := zoS_s h
  obtain ⟨p43, ep43, h⟩ := zoB_s h
  refine zr_callV0 F (k_MReader_numbers l D tA b sh _ ep43) zd_MReader_mesh_93 (zW_o hs41 (by decide)) rfl zs_MReader_110 rfl zq_MReader_numbers rfl rfl ⟨(Nat.le_of_ble_eq_true rfl), (Nat.le_of_ble_eq_true rfl)⟩ (Nat.le_of_ble_eq_true rfl) ⟨(Nat.le_of_ble_eq_true rfl), (Nat.le_of_ble_eq_true rfl)⟩ ?_
  refine zr_aload_n F zd_MReader_mesh_96 rfl ?_
  refine zr_bipushv (v := 44) F zd_MReader_mesh_97 (by decide) ?_
  refine zr_pcn 99 rfl ?_
  obtain ⟨le45, hs44, h⟩ := zoS_s h
  obtain ⟨p46, ep46, h⟩ := zoB_s h
  refine zr_callV0 F (k_MReader_sign l D tA b sh _ ep46) zd_MReader_mesh_99 (zW_o hs44 (by decide)) rfl zs_MReader_55 rfl zq_MReader_sign rfl rfl ⟨(Nat.le_of_ble_eq_true rfl), (Nat.le_of_ble_eq_true rfl)⟩ (Nat.le_of_ble_eq_true rfl) ⟨(Nat.le_of_ble_eq_true rfl), (Nat.le_of_ble_eq_true rfl)⟩ ?_
  refine zr_aload_n F zd_MReader_mesh_102 rfl ?_
  refine zr_ldcS F 52 "places" zd_MReader_mesh_103 (by decide +kernel) ?_
  refine zr_aload_n F zd_MReader_mesh_105 rfl ?_
  obtain ⟨le48, hs47, h⟩ := zoS_s h
  obtain ⟨a49, ea49, h⟩ := zoB_s h
  refine zr_get F 15 17 zd_MReader_mesh_106 (zW_o hs47 (by decide)) rfl (by decide) zw_1367 rfl (by rfl) ?_
  refine zr_tor ea49 ?_
  refine zr_sipushv (v := 256) F zd_MReader_mesh_109 (by decide) ?_
  refine zr_iload_n F zd_MReader_mesh_112 rfl ?_
  refine zr_imul F zd_MReader_mesh_113 ?_
  refine zr_pcn 114 rfl ?_
  refine zr_iconstv (v := 3) F zd_MReader_mesh_114 (by decide) ?_
  refine zr_iconstv (v := 2) F zd_MReader_mesh_115 (by decide) ?_
  refine zr_iload_n F zd_MReader_mesh_116 rfl ?_
  refine zr_imul F zd_MReader_mesh_117 ?_
  refine zr_iconstv (v := 2) F zd_MReader_mesh_118 (by decide) ?_
  refine zr_iload_n F zd_MReader_mesh_119 rfl ?_
  refine zr_imul F zd_MReader_mesh_120 ?_
  refine zr_iconstv (v := 1) F zd_MReader_mesh_121 (by decide) ?_
  refine zr_pcn 122 rfl ?_
  refine zr_iconstv (v := 0) F zd_MReader_mesh_122 (by decide) ?_
  obtain ⟨le51, hs50, h⟩ := zoS_s h
  obtain ⟨p52, ep52, h⟩ := zoB_s h
  refine zr_callV0 F (k_MReader_numbers l D tA b sh _ ep52) zd_MReader_mesh_123 (zW_o hs50 (by decide)) rfl zs_MReader_110 rfl zq_MReader_numbers rfl rfl ⟨(Nat.le_of_ble_eq_true rfl), (Nat.le_of_ble_eq_true rfl)⟩ (Nat.le_of_ble_eq_true rfl) ⟨(Nat.le_of_ble_eq_true rfl), (Nat.le_of_ble_eq_true rfl)⟩ ?_
  refine zr_aload_n F zd_MReader_mesh_126 rfl ?_
  refine zr_bipushv (v := 44) F zd_MReader_mesh_127 (by decide) ?_
  obtain ⟨le54, hs53, h⟩ := zoS_s h
  obtain ⟨p55, ep55, h⟩ := zoB_s h
  refine zr_callV0 F (k_MReader_sign l D tA b sh _ ep55) zd_MReader_mesh_129 (zW_o hs53 (by decide)) rfl zs_MReader_55 rfl zq_MReader_sign rfl rfl ⟨(Nat.le_of_ble_eq_true rfl), (Nat.le_of_ble_eq_true rfl)⟩ (Nat.le_of_ble_eq_true rfl) ⟨(Nat.le_of_ble_eq_true rfl), (Nat.le_of_ble_eq_true rfl)⟩ ?_
  refine zr_aload_n F zd_MReader_mesh_132 rfl ?_
  refine zr_ldcS F 53 "faces" zd_MReader_mesh_133 (by decide +kernel) ?_
  refine zr_aload_n F zd_MReader_mesh_135 rfl ?_
  refine zr_pcn 136 rfl ?_
  obtain ⟨le57, hs56, h⟩ := zoS_s h
  obtain ⟨a58, ea58, h⟩ := zoB_s h
  refine zr_get F 15 18 zd_MReader_mesh_136 (zW_o hs56 (by decide)) rfl (by decide) zw_1370 rfl (by rfl) ?_
  refine zr_tor ea58 ?_
  refine zr_sipushv (v := 384) F zd_MReader_mesh_139 (by decide) ?_
  refine zr_iload_n F zd_MReader_mesh_142 rfl ?_
  refine zr_imul F zd_MReader_mesh_143 ?_
  refine zr_iconstv (v := 4) F zd_MReader_mesh_144 (by decide) ?_
  refine zr_iconstv (v := 3) F zd_MReader_mesh_145 (by decide) ?_
  refine zr_sipushv (v := 384) F zd_MReader_mesh_146 (by decide) ?_
  refine zr_iconstv (v := 3) F zd_MReader_mesh_149 (by decide) ?_
  refine zr_pcn 150 rfl ?_
  refine zr_iload_n F zd_MReader_mesh_150 rfl ?_
  obtain ⟨le60, hs59, h⟩ := zoS_s h
  obtain ⟨p61, ep61, h⟩ := zoB_s h
  refine zr_callV0 F (k_MReader_numbers l D tA b sh _ ep61) zd_MReader_mesh_151 (zW_o hs59 (by decide)) rfl zs_MReader_110 rfl zq_MReader_numbers rfl rfl ⟨(Nat.le_of_ble_eq_true rfl), (Nat.le_of_ble_eq_true rfl)⟩ (Nat.le_of_ble_eq_true rfl) ⟨(Nat.le_of_ble_eq_true rfl), (Nat.le_of_ble_eq_true rfl)⟩ ?_
  refine zr_aload_n F zd_MReader_mesh_154 rfl ?_
  obtain ⟨le63, hs62, h⟩ := zoS_s h
  obtain ⟨a64, ea64, h⟩ := zoB_s h
  refine zr_get F 15 14 zd_MReader_mesh_155 (zW_o hs62 (by decide)) rfl (by decide) zw_1358 rfl (by rfl) ?_
  refine zr_tor ea64 ?_
  refine zr_iload_n F zd_MReader_mesh_158 rfl ?_
  refine zr_aload_n F zd_MReader_mesh_159 rfl ?_
  obtain ⟨le66, hs65, h⟩ := zoS_s h
  refine zr_get F 14 9 zd_MReader_mesh_160 (zW_o hs65 (by decide)) rfl (by decide) zw_1515 rfl (by rfl) ?_
  refine zr_iconstv (v := 3) F zd_MReader_mesh_163 (by decide) ?_
  refine zr_pcn 164 rfl ?_
  refine zr_idiv F zd_MReader_mesh_164 (by decide) ?_
  obtain ⟨x67, ex67, h⟩ := zoL_s h
  rw [← ex67]
  obtain ⟨le69, hs68, h⟩ := zoS_s h
  obtain ⟨hi70, h⟩ := zoI_s h
  refine zr_iast F zd_MReader_mesh_165 (zW_a0 hs68) hi70 ?_
  obtain ⟨mm71, emm71, h⟩ := zoL_s h
  refine zr_norm (zW tA b sh mm71) _ (by rw [emm71]; exact zW_s0 hs68) rfl ?_
  obtain rfl := Option.some.inj h
  exact zr_vret F hr zd_MReader_mesh_166 (Nat.le_of_ble_eq_true rfl) (Nat.le_of_ble_eq_true rfl) ⟨rfl, rfl, rfl⟩
abbrev zb_MReader_node : ByteArray := prog_17_method_18_code
def zy_MReader_node : MethodName := ⟨"OrreryBoxModel$Reader", "node", "(I)V"⟩
theorem zc_MReader_node : Cond.code zy_MReader_node zb_MReader_node 3 none ∈ gw := gw_t 1877 (by decide +kernel) rfl
theorem zq_MReader_node : zy_MReader_node.cls ≠ "java/lang/invoke/MethodHandle" ∧ zy_MReader_node.cls ≠ "java/lang/invoke/VarHandle" ∧ (parseMethodDescriptor zy_MReader_node.desc).map (fun d => d.parameters.length) = some 1 := by decide +kernel
theorem zd_MReader_node_0 : decode zb_MReader_node 0 = .ok (.aload_n 0, 1) := by decide +kernel
theorem zd_MReader_node_1 : decode zb_MReader_node 1 = .ok (.getfield 13, 3) := by decide +kernel
theorem zd_MReader_node_4 : decode zb_MReader_node 4 = .ok (.astore_n 2, 1) := by decide +kernel
theorem zd_MReader_node_5 : decode zb_MReader_node 5 = .ok (.aload_n 2, 1) := by decide +kernel
theorem zd_MReader_node_6 : decode zb_MReader_node 6 = .ok (.getfield 184, 3) := by decide +kernel
theorem zd_MReader_node_9 : decode zb_MReader_node 9 = .ok (.iload_n 1, 1) := by decide +kernel
theorem zd_MReader_node_10 : decode zb_MReader_node 10 = .ok (.aload_n 0, 1) := by decide +kernel
theorem zd_MReader_node_11 : decode zb_MReader_node 11 = .ok (.ldc 187, 2) := by decide +kernel
theorem zd_MReader_node_13 : decode zb_MReader_node 13 = .ok (.iconst (-1), 1) := by decide +kernel
theorem zd_MReader_node_14 : decode zb_MReader_node 14 = .ok (.iload_n 1, 1) := by decide +kernel
theorem zd_MReader_node_15 : decode zb_MReader_node 15 = .ok (.iconst 1, 1) := by decide +kernel
theorem zd_MReader_node_16 : decode zb_MReader_node 16 = .ok (.isub, 1) := by decide +kernel
theorem zd_MReader_node_17 : decode zb_MReader_node 17 = .ok (.invokevirtual 121, 3) := by decide +kernel
theorem zd_MReader_node_20 : decode zb_MReader_node 20 = .ok (.iastore, 1) := by decide +kernel
theorem zd_MReader_node_21 : decode zb_MReader_node 21 = .ok (.aload_n 0, 1) := by decide +kernel
theorem zd_MReader_node_22 : decode zb_MReader_node 22 = .ok (.bipush 44, 2) := by decide +kernel
theorem zd_MReader_node_24 : decode zb_MReader_node 24 = .ok (.invokevirtual 55, 3) := by decide +kernel
theorem zd_MReader_node_27 : decode zb_MReader_node 27 = .ok (.aload_n 2, 1) := by decide +kernel
theorem zd_MReader_node_28 : decode zb_MReader_node 28 = .ok (.getfield 188, 3) := by decide +kernel
theorem zd_MReader_node_31 : decode zb_MReader_node 31 = .ok (.iload_n 1, 1) := by decide +kernel
theorem zd_MReader_node_32 : decode zb_MReader_node 32 = .ok (.aload_n 0, 1) := by decide +kernel
theorem zd_MReader_node_33 : decode zb_MReader_node 33 = .ok (.ldc 191, 2) := by decide +kernel
theorem zd_MReader_node_35 : decode zb_MReader_node 35 = .ok (.iconst (-1), 1) := by decide +kernel
theorem zd_MReader_node_36 : decode zb_MReader_node 36 = .ok (.aload_n 2, 1) := by decide +kernel
theorem zd_MReader_node_37 : decode zb_MReader_node 37 = .ok (.getfield 192, 3) := by decide +kernel
theorem zd_MReader_node_40 : decode zb_MReader_node 40 = .ok (.iconst 1, 1) := by decide +kernel
theorem zd_MReader_node_41 : decode zb_MReader_node 41 = .ok (.isub, 1) := by decide +kernel
theorem zd_MReader_node_42 : decode zb_MReader_node 42 = .ok (.invokevirtual 121, 3) := by decide +kernel
theorem zd_MReader_node_45 : decode zb_MReader_node 45 = .ok (.iastore, 1) := by decide +kernel
theorem zd_MReader_node_46 : decode zb_MReader_node 46 = .ok (.aload_n 0, 1) := by decide +kernel
theorem zd_MReader_node_47 : decode zb_MReader_node 47 = .ok (.bipush 44, 2) := by decide +kernel
theorem zd_MReader_node_49 : decode zb_MReader_node 49 = .ok (.invokevirtual 55, 3) := by decide +kernel
theorem zd_MReader_node_52 : decode zb_MReader_node 52 = .ok (.aload_n 0, 1) := by decide +kernel
theorem zd_MReader_node_53 : decode zb_MReader_node 53 = .ok (.ldc 195, 2) := by decide +kernel
theorem zd_MReader_node_55 : decode zb_MReader_node 55 = .ok (.aload_n 2, 1) := by decide +kernel
theorem zd_MReader_node_56 : decode zb_MReader_node 56 = .ok (.getfield 197, 3) := by decide +kernel
theorem zd_MReader_node_59 : decode zb_MReader_node 59 = .ok (.iconst 3, 1) := by decide +kernel
theorem zd_MReader_node_60 : decode zb_MReader_node 60 = .ok (.iload_n 1, 1) := by decide +kernel
theorem zd_MReader_node_61 : decode zb_MReader_node 61 = .ok (.imul, 1) := by decide +kernel
theorem zd_MReader_node_62 : decode zb_MReader_node 62 = .ok (.iconst 5, 1) := by decide +kernel
theorem zd_MReader_node_63 : decode zb_MReader_node 63 = .ok (.invokevirtual 199, 3) := by decide +kernel
theorem zd_MReader_node_66 : decode zb_MReader_node 66 = .ok (.aload_n 0, 1) := by decide +kernel
theorem zd_MReader_node_67 : decode zb_MReader_node 67 = .ok (.bipush 44, 2) := by decide +kernel
theorem zd_MReader_node_69 : decode zb_MReader_node 69 = .ok (.invokevirtual 55, 3) := by decide +kernel
theorem zd_MReader_node_72 : decode zb_MReader_node 72 = .ok (.aload_n 0, 1) := by decide +kernel
theorem zd_MReader_node_73 : decode zb_MReader_node 73 = .ok (.ldc 203, 2) := by decide +kernel
theorem zd_MReader_node_75 : decode zb_MReader_node 75 = .ok (.aload_n 2, 1) := by decide +kernel
theorem zd_MReader_node_76 : decode zb_MReader_node 76 = .ok (.getfield 205, 3) := by decide +kernel
theorem zd_MReader_node_79 : decode zb_MReader_node 79 = .ok (.iconst 3, 1) := by decide +kernel
theorem zd_MReader_node_80 : decode zb_MReader_node 80 = .ok (.iload_n 1, 1) := by decide +kernel
theorem zd_MReader_node_81 : decode zb_MReader_node 81 = .ok (.imul, 1) := by decide +kernel
theorem zd_MReader_node_82 : decode zb_MReader_node 82 = .ok (.bipush 6, 2) := by decide +kernel
theorem zd_MReader_node_84 : decode zb_MReader_node 84 = .ok (.invokevirtual 199, 3) := by decide +kernel
theorem zd_MReader_node_87 : decode zb_MReader_node 87 = .ok (.aload_n 0, 1) := by decide +kernel
theorem zd_MReader_node_88 : decode zb_MReader_node 88 = .ok (.bipush 44, 2) := by decide +kernel
theorem zd_MReader_node_90 : decode zb_MReader_node 90 = .ok (.invokevirtual 55, 3) := by decide +kernel
theorem zd_MReader_node_93 : decode zb_MReader_node 93 = .ok (.aload_n 0, 1) := by decide +kernel
theorem zd_MReader_node_94 : decode zb_MReader_node 94 = .ok (.ldc 207, 2) := by decide +kernel
theorem zd_MReader_node_96 : decode zb_MReader_node 96 = .ok (.aload_n 2, 1) := by decide +kernel
theorem zd_MReader_node_97 : decode zb_MReader_node 97 = .ok (.getfield 208, 3) := by decide +kernel
theorem zd_MReader_node_100 : decode zb_MReader_node 100 = .ok (.iconst 3, 1) := by decide +kernel
theorem zd_MReader_node_101 : decode zb_MReader_node 101 = .ok (.iload_n 1, 1) := by decide +kernel
theorem zd_MReader_node_102 : decode zb_MReader_node 102 = .ok (.imul, 1) := by decide +kernel
theorem zd_MReader_node_103 : decode zb_MReader_node 103 = .ok (.bipush 6, 2) := by decide +kernel
theorem zd_MReader_node_105 : decode zb_MReader_node 105 = .ok (.invokevirtual 199, 3) := by decide +kernel
theorem zd_MReader_node_108 : decode zb_MReader_node 108 = .ok (.aload_n 2, 1) := by decide +kernel
theorem zd_MReader_node_109 : decode zb_MReader_node 109 = .ok (.getfield 210, 3) := by decide +kernel
theorem zd_MReader_node_112 : decode zb_MReader_node 112 = .ok (.iload_n 1, 1) := by decide +kernel
theorem zd_MReader_node_113 : decode zb_MReader_node 113 = .ok (.iconst 0, 1) := by decide +kernel
theorem zd_MReader_node_114 : decode zb_MReader_node 114 = .ok (.bastore, 1) := by decide +kernel
theorem zd_MReader_node_115 : decode zb_MReader_node 115 = .ok (.return_, 1) := by decide +kernel
theorem zw_1375 : (Jvm.Cond.fieldLink "OrreryBoxModel$Reader" (184 : Nat) "OrreryBoxModel$Scene" "parent" "[I") ∈ gw := gw_t 1375 (by decide +kernel) rfl
theorem zw_1378 : (Jvm.Cond.fieldLink "OrreryBoxModel$Reader" (188 : Nat) "OrreryBoxModel$Scene" "mesh" "[I") ∈ gw := gw_t 1378 (by decide +kernel) rfl
theorem zw_1323 : (Jvm.Cond.fieldLink "OrreryBoxModel$Reader" (192 : Nat) "OrreryBoxModel$Scene" "meshes" "I") ∈ gw := gw_t 1323 (by decide +kernel) rfl
theorem zw_1381 : (Jvm.Cond.fieldLink "OrreryBoxModel$Reader" (197 : Nat) "OrreryBoxModel$Scene" "move" "[I") ∈ gw := gw_t 1381 (by decide +kernel) rfl
theorem zw_1881 : (Jvm.Cond.methodLink "OrreryBoxModel$Reader" (199 : Nat) ({ cls := "OrreryBoxModel$Reader", name := "three", desc := "(Ljava/lang/String;[III)V" } : Jvm.MethodName)) ∈ gw := gw_t 1881 (by decide +kernel) rfl
theorem zw_1883 : (Jvm.Cond.instanceMethod ({ cls := "OrreryBoxModel$Reader", name := "three", desc := "(Ljava/lang/String;[III)V" } : Jvm.MethodName)) ∈ gw := gw_t 1883 (by decide +kernel) rfl
theorem zv_86 : (Jvm.Cond.selects "OrreryBoxModel$Reader" (⟨"OrreryBoxModel$Reader", "three", "(Ljava/lang/String;[III)V"⟩ : MethodName) ⟨"OrreryBoxModel$Reader", "three", "(Ljava/lang/String;[III)V"⟩) ∈ gw := gw_s 86 (by decide +kernel) rfl
theorem zs_MReader_199 : zwV "OrreryBoxModel$Reader" 199 "OrreryBoxModel$Reader" zy_MReader_three zb_MReader_three 5 none := ⟨zw_1881, zw_1883, zv_86, zw_15, zc_MReader_three⟩
theorem zw_1384 : (Jvm.Cond.fieldLink "OrreryBoxModel$Reader" (205 : Nat) "OrreryBoxModel$Scene" "turn" "[I") ∈ gw := gw_t 1384 (by decide +kernel) rfl
theorem zw_1387 : (Jvm.Cond.fieldLink "OrreryBoxModel$Reader" (208 : Nat) "OrreryBoxModel$Scene" "size" "[I") ∈ gw := gw_t 1387 (by decide +kernel) rfl
theorem zw_1391 : (Jvm.Cond.fieldLink "OrreryBoxModel$Reader" (210 : Nat) "OrreryBoxModel$Scene" "hidden" "[Z") ∈ gw := gw_t 1391 (by decide +kernel) rfl
def F_MReader_node (sh : zSh) (mm : zMem) (o : Nat) (x0_ : Int32) : Option zMem := zoS (sh o) 14 (fun le2 => Option.bind (mm.2.2 o 1) (fun a3 => zoS (sh a3) 15 (fun le5 => Option.bind (mm.2.2 a3 19) (fun a6 => zoS (sh o) 14 (fun le8 => Option.bind (F_MReader_single sh mm o 54 (-1) (x0_ - 1)) (fun p9 => zoS (sh a6) 100 (fun le11 => if (x0_ : Int32) < 0 ∨ le11 ≤ (x0_ : Int32).toNatClampNeg then none else zoL (mI (p9.2) a6 (x0_ : Int32).toNatClampNeg (p9.1)) (fun mm13 => zoS (sh o) 14 (fun le15 => Option.bind (F_MReader_sign sh mm13 o 44) (fun p16 => zoS (sh a3) 15 (fun le18 => Option.bind (p16.2.2 a3 20) (fun a19 => zoS (sh a3) 15 (fun le21 => zoS (sh o) 14 (fun le23 => Option.bind (F_MReader_single sh p16 o 55 (-1) ((p16.1 a3 2) - 1)) (fun p24 => zoS (sh a19) 100 (fun le26 => if (x0_ : Int32) < 0 ∨ le26 ≤ (x0_ : Int32).toNatClampNeg then none else zoL (mI (p24.2) a19 (x0_ : Int32).toNatClampNeg (p24.1)) (fun mm28 => zoS (sh o) 14 (fun le30 => Option.bind (F_MReader_sign sh mm28 o 44) (fun p31 => zoS (sh a3) 15 (fun le33 => Option.bind (p31.2.2 a3 21) (fun a34 => zoS (sh o) 14 (fun le36 => Option.bind (F_MReader_three sh p31 o 56 a34 (3 * x0_) 5) (fun p37 => zoS (sh o) 14 (fun le39 => Option.bind (F_MReader_sign sh p37 o 44) (fun p40 => zoS (sh a3) 15 (fun le42 => Option.bind (p40.2.2 a3 22) (fun a43 => zoS (sh o) 14 (fun le45 => Option.bind (F_MReader_three sh p40 o 57 a43 (3 * x0_) 6) (fun p46 => zoS (sh o) 14 (fun le48 => Option.bind (F_MReader_sign sh p46 o 44) (fun p49 => zoS (sh a3) 15 (fun le51 => Option.bind (p49.2.2 a3 23) (fun a52 => zoS (sh o) 14 (fun le54 => Option.bind (F_MReader_three sh p49 o 58 a52 (3 * x0_) 6) (fun p55 => zoS (sh a3) 15 (fun le57 => Option.bind (p55.2.2 a3 24) (fun a58 => zoS (sh a58) 103 (fun le60 => if (x0_ : Int32) < 0 ∨ le60 ≤ (x0_ : Int32).toNatClampNeg then none else zoL (mI p55 a58 (x0_ : Int32).toNatClampNeg (vp_nar .boolean 0)) (fun mm62 => some mm62)))))))))))))))))))))))))))))))))))))))
set_option maxHeartbeats 4000000 in
set_option maxRecDepth 100000 in
theorem k_MReader_node (l : Launch) (D : va_G) (tA : Nat → ClassId) (b : Nat) (sh : zSh) (n : Nat) {mm : zMem} {o : Nat} {x0_ : Int32} {r : zMem} (h : F_MReader_node sh mm o x0_ = some r) : zM l D tA b zy_MReader_node zb_MReader_node 3 none 8 181 0 0 [.ref (b + o), .int x0_] (zW tA b sh mm) n (zE none (zW tA b sh r) n) := by
  unfold F_MReader_node at h
  refine zM_of (own := "OrreryBoxModel$Reader") (plainFor_of_name (by decide)) rfl (Nat.le_of_ble_eq_true rfl) (fun p e s m below meth c F hr hin hH => ?_)
  refine zr_aload_n F zd_MReader_node_0 rfl ?_
  obtain ⟨le2, hs1, h⟩ := zoS_s h
  obtain ⟨a3, ea3, h⟩ := zoB_s h
  refine zr_get F 14 1 zd_MReader_node_1 (zW_o hs1 (by decide)) rfl (by decide) zw_1505 rfl (by rfl) ?_
  refine zr_tor ea3 ?_
  refine zr_astore_n F zd_MReader_node_4 (by decide) ?_
  refine zr_aload_n F zd_MReader_node_5 rfl ?_
  obtain ⟨le5, hs4, h⟩ := zoS_s h
  obtain ⟨a6, ea6, h⟩ := zoB_s h
  refine zr_get F 15 19 zd_MReader_node_6 (zW_o hs4 (by decide)) rfl (by decide) zw_1375 rfl (by rfl) ?_
  refine zr_tor ea6 ?_
  refine zr_iload_n F zd_MReader_node_9 rfl ?_
  refine zr_aload_n F zd_MReader_node_10 rfl ?_
  refine zr_pcn 11 rfl ?_
  refine zr_ldcS F 54 "parent" zd_MReader_node_11 (by decide +kernel) ?_
  refine zr_iconstv (v := (-1)) F zd_MReader_node_13 (by decide) ?_
  refine zr_iload_n F zd_MReader_node_14 rfl ?_
  refine zr_iconstv (v := 1) F zd_MReader_node_15 (by decide) ?_
  refine zr_isub F zd_MReader_node_16 ?_
  obtain ⟨le8, hs7, h⟩ := zoS_s h
  obtain ⟨p9, ep9, h⟩ := zoB_s h
  refine zr_callV1 F (k_MReader_single l D tA b sh _ ep9) zd_MReader_node_17 (zW_o hs7 (by decide)) rfl zs_MReader_121 rfl zq_MReader_single rfl rfl ⟨(Nat.le_of_ble_eq_true rfl), (Nat.le_of_ble_eq_true rfl)⟩ (Nat.le_of_ble_eq_true rfl) ⟨(Nat.le_of_ble_eq_true rfl), (Nat.le_of_ble_eq_true rfl)⟩ ?_
  obtain ⟨le11, hs10, h⟩ := zoS_s h
  obtain ⟨hi12, h⟩ := zoI_s h
  refine zr_iast F zd_MReader_node_20 (zW_a0 hs10) hi12 ?_
  obtain ⟨mm13, emm13, h⟩ := zoL_s h
  refine zr_norm (zW tA b sh mm13) _ (by rw [emm13]; exact zW_s0 hs10) rfl ?_
  refine zr_aload_n F zd_MReader_node_21 rfl ?_
  refine zr_pcn 22 rfl ?_
  refine zr_bipushv (v := 44) F zd_MReader_node_22 (by decide) ?_
  obtain ⟨le15, hs14, h⟩ := zoS_s h
  obtain ⟨p16, ep16, h⟩ := zoB_s h
  refine zr_callV0 F (k_MReader_sign l D tA b sh _ ep16) zd_MReader_node_24 (zW_o hs14 (by decide)) rfl zs_MReader_55 rfl zq_MReader_sign rfl rfl ⟨(Nat.le_of_ble_eq_true rfl), (Nat.le_of_ble_eq_true rfl)⟩ (Nat.le_of_ble_eq_true rfl) ⟨(Nat.le_of_ble_eq_true rfl), (Nat.le_of_ble_eq_true rfl)⟩ ?_
  refine zr_aload_n F zd_MReader_node_27 rfl ?_
  obtain ⟨le18, hs17, h⟩ := zoS_s h
  obtain ⟨a19, ea19, h⟩ := zoB_s h
  refine zr_get F 15 20 zd_MReader_node_28 (zW_o hs17 (by decide)) rfl (by decide) zw_1378 rfl (by rfl) ?_
  refine zr_tor ea19 ?_
  refine zr_iload_n F zd_MReader_node_31 rfl ?_
  refine zr_aload_n F zd_MReader_node_32 rfl ?_
  refine zr_ldcS F 55 "mesh" zd_MReader_node_33 (by decide +kernel) ?_
  refine zr_iconstv (v := (-1)) F zd_MReader_node_35 (by decide) ?_
  refine zr_pcn 36 rfl ?_
  refine zr_aload_n F zd_MReader_node_36 rfl ?_
  obtain ⟨le21, hs20, h⟩ := zoS_s h
  refine zr_get F 15 2 zd_MReader_node_37 (zW_o hs20 (by decide)) rfl (by decide) zw_1323 rfl (by rfl) ?_
  refine zr_iconstv (v := 1) F zd_MReader_node_40 (by decide) ?_
  refine zr_isub F zd_MReader_node_41 ?_
  obtain ⟨le23, hs22, h⟩ := zoS_s h
  obtain ⟨p24, ep24, h⟩ := zoB_s h
  refine zr_callV1 F (k_MReader_single l D tA b sh _ ep24) zd_MReader_node_42 (zW_o hs22 (by decide)) rfl zs_MReader_121 rfl zq_MReader_single rfl rfl ⟨(Nat.le_of_ble_eq_true rfl), (Nat.le_of_ble_eq_true rfl)⟩ (Nat.le_of_ble_eq_true rfl) ⟨(Nat.le_of_ble_eq_true rfl), (Nat.le_of_ble_eq_true rfl)⟩ ?_
  obtain ⟨le26, hs25, h⟩ := zoS_s h
  obtain ⟨hi27, h⟩ := zoI_s h
  refine zr_iast F zd_MReader_node_45 (zW_a0 hs25) hi27 ?_
  obtain ⟨mm28, emm28, h⟩ := zoL_s h
  refine zr_norm (zW tA b sh mm28) _ (by rw [emm28]; exact zW_s0 hs25) rfl ?_
  refine zr_aload_n F zd_MReader_node_46 rfl ?_
  refine zr_bipushv (v := 44) F zd_MReader_node_47 (by decide) ?_
  refine zr_pcn 49 rfl ?_
  obtain ⟨le30, hs29, h⟩ := zoS_s h
  obtain ⟨p31, ep31, h⟩ := zoB_s h
  refine zr_callV0 F (k_MReader_sign l D tA b sh _ ep31) zd_MReader_node_49 (zW_o hs29 (by decide)) rfl zs_MReader_55 rfl zq_MReader_sign rfl rfl ⟨(Nat.le_of_ble_eq_true rfl), (Nat.le_of_ble_eq_true rfl)⟩ (Nat.le_of_ble_eq_true rfl) ⟨(Nat.le_of_ble_eq_true rfl), (Nat.le_of_ble_eq_true rfl)⟩ ?_
  refine zr_aload_n F zd_MReader_node_52 rfl ?_
  refine zr_ldcS F 56 "move" zd_MReader_node_53 (by decide +kernel) ?_
  refine zr_aload_n F zd_MReader_node_55 rfl ?_
  obtain ⟨le33, hs32, h⟩ := zoS_s h
  obtain ⟨a34, ea34, h⟩ := zoB_s h
  refine zr_get F 15 21 zd_MReader_node_56 (zW_o hs32 (by decide)) rfl (by decide) zw_1381 rfl (by rfl) ?_
  refine zr_tor ea34 ?_
  refine zr_iconstv (v := 3) F zd_MReader_node_59 (by decide) ?_
  refine zr_iload_n F zd_MReader_node_60 rfl ?_
  refine zr_imul F zd_MReader_node_61 ?_
  refine zr_pcn 62 rfl ?_
  refine zr_iconstv (v := 5) F zd_MReader_node_62 (by decide) ?_
  obtain ⟨le36, hs35, h⟩ := zoS_s h
  obtain ⟨p37, ep37, h⟩ := zoB_s h
  refine zr_callV0 F (k_MReader_three l D tA b sh _ ep37) zd_MReader_node_63 (zW_o hs35 (by decide)) rfl zs_MReader_199 rfl zq_MReader_three rfl rfl ⟨(Nat.le_of_ble_eq_true rfl), (Nat.le_of_ble_eq_true rfl)⟩ (Nat.le_of_ble_eq_true rfl) ⟨(Nat.le_of_ble_eq_true rfl), (Nat.le_of_ble_eq_true rfl)⟩ ?_
  refine zr_aload_n F zd_MReader_node_66 rfl ?_
  refine zr_bipushv (v := 44) F zd_MReader_node_67 (by decide) ?_
  obtain ⟨le39, hs38, h⟩ := zoS_s h
  obtain ⟨p40, ep40, h⟩ := zoB_s h
  refine zr_callV0 F (k_MReader_sign l D tA b sh _ ep40) zd_MReader_node_69 (zW_o hs38 (by decide)) rfl zs_MReader_55 rfl zq_MReader_sign rfl rfl ⟨(Nat.le_of_ble_eq_true rfl), (Nat.le_of_ble_eq_true rfl)⟩ (Nat.le_of_ble_eq_true rfl) ⟨(Nat.le_of_ble_eq_true rfl), (Nat.le_of_ble_eq_true rfl)⟩ ?_
  refine zr_aload_n F zd_MReader_node_72 rfl ?_
  refine zr_ldcS F 57 "turn" zd_MReader_node_73 (by decide +kernel) ?_
  refine zr_aload_n F zd_MReader_node_75 rfl ?_
  refine zr_pcn 76 rfl ?_
  obtain ⟨le42, hs41, h⟩ := zoS_s h
  obtain ⟨a43, ea43, h⟩ := zoB_s h
  refine zr_get F 15 22 zd_MReader_node_76 (zW_o hs41 (by decide)) rfl (by decide) zw_1384 rfl (by rfl) ?_
  refine zr_tor ea43 ?_
  refine zr_iconstv (v := 3) F zd_MReader_node_79 (by decide) ?_
  refine zr_iload_n F zd_MReader_node_80 rfl ?_
  refine zr_imul F zd_MReader_node_81 ?_
  refine zr_bipushv (v := 6) F zd_MReader_node_82 (by decide) ?_
  obtain ⟨le45, hs44, h⟩ := zoS_s h
  obtain ⟨p46, ep46, h⟩ := zoB_s h
  refine zr_callV0 F (k_MReader_three l D tA b sh _ ep46) zd_MReader_node_84 (zW_o hs44 (by decide)) rfl zs_MReader_199 rfl zq_MReader_three rfl rfl ⟨(Nat.le_of_ble_eq_true rfl), (Nat.le_of_ble_eq_true rfl)⟩ (Nat.le_of_ble_eq_true rfl) ⟨(Nat.le_of_ble_eq_true rfl), (Nat.le_of_ble_eq_true rfl)⟩ ?_
  refine zr_aload_n F zd_MReader_node_87 rfl ?_
  refine zr_bipushv (v := 44) F zd_MReader_node_88 (by decide) ?_
  refine zr_pcn 90 rfl ?_
  obtain ⟨le48, hs47, h⟩ := zoS_s h
  obtain ⟨p49, ep49, h⟩ := zoB_s h
  refine zr_callV0 F (k_MReader_sign l D tA b sh _ ep49) zd_MReader_node_90 (zW_o hs47 (by decide)) rfl zs_MReader_55 rfl zq_MReader_sign rfl rfl ⟨(Nat.le_of_ble_eq_true rfl), (Nat.le_of_ble_eq_true rfl)⟩ (Nat.le_of_ble_eq_true rfl) ⟨(Nat.le_of_ble_eq_true rfl), (Nat.le_of_ble_eq_true rfl)⟩ ?_
  refine zr_aload_n F zd_MReader_node_93 rfl ?_
  refine zr_ldcS F 58 "size" zd_MReader_node_94 (by decide +kernel) ?_
  refine zr_aload_n F zd_MReader_node_96 rfl ?_
  obtain ⟨le51, hs50, h⟩ := zoS_s h
  obtain ⟨a52, ea52, h⟩ := zoB_s h
  refine zr_get F 15 23 zd_MReader_node_97 (zW_o hs50 (by decide)) rfl (by decide) zw_1387 rfl (by rfl) ?_
  refine zr_tor ea52 ?_
  refine zr_iconstv (v := 3) F zd_MReader_node_100 (by decide) ?_
  refine zr_iload_n F zd_MReader_node_101 rfl ?_
  refine zr_imul F zd_MReader_node_102 ?_
  refine zr_pcn 103 rfl ?_
  refine zr_bipushv (v := 6) F zd_MReader_node_103 (by decide) ?_
  obtain ⟨le54, hs53, h⟩ := zoS_s h
  obtain ⟨p55, ep55, h⟩ := zoB_s h
  refine zr_callV0 F (k_MReader_three l D tA b sh _ ep55) zd_MReader_node_105 (zW_o hs53 (by decide)) rfl zs_MReader_199 rfl zq_MReader_three rfl rfl ⟨(Nat.le_of_ble_eq_true rfl), (Nat.le_of_ble_eq_true rfl)⟩ (Nat.le_of_ble_eq_true rfl) ⟨(Nat.le_of_ble_eq_true rfl), (Nat.le_of_ble_eq_true rfl)⟩ ?_
  refine zr_aload_n F zd_MReader_node_108 rfl ?_
  obtain ⟨le57, hs56, h⟩ := zoS_s h
  obtain ⟨a58, ea58, h⟩ := zoB_s h
  refine zr_get F 15 24 zd_MReader_node_109 (zW_o hs56 (by decide)) rfl (by decide) zw_1391 rfl (by rfl) ?_
  refine zr_tor ea58 ?_
  refine zr_iload_n F zd_MReader_node_112 rfl ?_
  refine zr_iconstv (v := 0) F zd_MReader_node_113 (by decide) ?_
  obtain ⟨le60, hs59, h⟩ := zoS_s h
  obtain ⟨hi61, h⟩ := zoI_s h
  refine zr_zast F zd_MReader_node_114 (zW_a3 hs59) hi61 ?_
  obtain ⟨mm62, emm62, h⟩ := zoL_s h
  refine zr_norm (zW tA b sh mm62) _ (by rw [emm62]; exact zW_s3 hs59) rfl ?_
  obtain rfl := Option.some.inj h
  exact zr_vret F hr zd_MReader_node_115 (Nat.le_of_ble_eq_true rfl) (Nat.le_of_ble_eq_true rfl) ⟨rfl, rfl, rfl⟩
abbrev zb_MReader_track : ByteArray := prog_17_method_19_code
def zy_MReader_track : MethodName := ⟨"OrreryBoxModel$Reader", "track", "(I)V"⟩
theorem zc_MReader_track : Cond.code zy_MReader_track zb_MReader_track 4 none ∈ gw := gw_t 1890 (by decide +kernel) rfl
theorem zq_MReader_track : zy_MReader_track.cls ≠ "java/lang/invoke/MethodHandle" ∧ zy_MReader_track.cls ≠ "java/lang/invoke/VarHandle" ∧ (parseMethodDescriptor zy_MReader_track.desc).map (fun d => d.parameters.length) = some 1 := by decide +kernel
theorem zd_MReader_track_0 : decode zb_MReader_track 0 = .ok (.aload_n 0, 1) := by decide +kernel
theorem zd_MReader_track_1 : decode zb_MReader_track 1 = .ok (.getfield 13, 3) := by decide +kernel
theorem zd_MReader_track_4 : decode zb_MReader_track 4 = .ok (.astore_n 2, 1) := by decide +kernel
theorem zd_MReader_track_5 : decode zb_MReader_track 5 = .ok (.aload_n 2, 1) := by decide +kernel
theorem zd_MReader_track_6 : decode zb_MReader_track 6 = .ok (.getfield 214, 3) := by decide +kernel
theorem zd_MReader_track_9 : decode zb_MReader_track 9 = .ok (.iload_n 1, 1) := by decide +kernel
theorem zd_MReader_track_10 : decode zb_MReader_track 10 = .ok (.aload_n 0, 1) := by decide +kernel
theorem zd_MReader_track_11 : decode zb_MReader_track 11 = .ok (.ldc 217, 2) := by decide +kernel
theorem zd_MReader_track_13 : decode zb_MReader_track 13 = .ok (.iconst 0, 1) := by decide +kernel
theorem zd_MReader_track_14 : decode zb_MReader_track 14 = .ok (.aload_n 2, 1) := by decide +kernel
theorem zd_MReader_track_15 : decode zb_MReader_track 15 = .ok (.getfield 219, 3) := by decide +kernel
theorem zd_MReader_track_18 : decode zb_MReader_track 18 = .ok (.iconst 1, 1) := by decide +kernel
theorem zd_MReader_track_19 : decode zb_MReader_track 19 = .ok (.isub, 1) := by decide +kernel
theorem zd_MReader_track_20 : decode zb_MReader_track 20 = .ok (.invokevirtual 121, 3) := by decide +kernel
theorem zd_MReader_track_23 : decode zb_MReader_track 23 = .ok (.iastore, 1) := by decide +kernel
theorem zd_MReader_track_24 : decode zb_MReader_track 24 = .ok (.aload_n 0, 1) := by decide +kernel
theorem zd_MReader_track_25 : decode zb_MReader_track 25 = .ok (.bipush 44, 2) := by decide +kernel
theorem zd_MReader_track_27 : decode zb_MReader_track 27 = .ok (.invokevirtual 55, 3) := by decide +kernel
theorem zd_MReader_track_30 : decode zb_MReader_track 30 = .ok (.aload_n 2, 1) := by decide +kernel
theorem zd_MReader_track_31 : decode zb_MReader_track 31 = .ok (.getfield 222, 3) := by decide +kernel
theorem zd_MReader_track_34 : decode zb_MReader_track 34 = .ok (.iload_n 1, 1) := by decide +kernel
theorem zd_MReader_track_35 : decode zb_MReader_track 35 = .ok (.aload_n 0, 1) := by decide +kernel
theorem zd_MReader_track_36 : decode zb_MReader_track 36 = .ok (.ldc 225, 2) := by decide +kernel
theorem zd_MReader_track_38 : decode zb_MReader_track 38 = .ok (.iconst 0, 1) := by decide +kernel
theorem zd_MReader_track_39 : decode zb_MReader_track 39 = .ok (.iconst 2, 1) := by decide +kernel
theorem zd_MReader_track_40 : decode zb_MReader_track 40 = .ok (.invokevirtual 121, 3) := by decide +kernel
theorem zd_MReader_track_43 : decode zb_MReader_track 43 = .ok (.iastore, 1) := by decide +kernel
theorem zd_MReader_track_44 : decode zb_MReader_track 44 = .ok (.aload_n 0, 1) := by decide +kernel
theorem zd_MReader_track_45 : decode zb_MReader_track 45 = .ok (.bipush 44, 2) := by decide +kernel
theorem zd_MReader_track_47 : decode zb_MReader_track 47 = .ok (.invokevirtual 55, 3) := by decide +kernel
theorem zd_MReader_track_50 : decode zb_MReader_track 50 = .ok (.aload_n 2, 1) := by decide +kernel
theorem zd_MReader_track_51 : decode zb_MReader_track 51 = .ok (.getfield 226, 3) := by decide +kernel
theorem zd_MReader_track_54 : decode zb_MReader_track 54 = .ok (.iload_n 1, 1) := by decide +kernel
theorem zd_MReader_track_55 : decode zb_MReader_track 55 = .ok (.aload_n 0, 1) := by decide +kernel
theorem zd_MReader_track_56 : decode zb_MReader_track 56 = .ok (.ldc 229, 2) := by decide +kernel
theorem zd_MReader_track_58 : decode zb_MReader_track 58 = .ok (.iconst 0, 1) := by decide +kernel
theorem zd_MReader_track_59 : decode zb_MReader_track 59 = .ok (.iconst 2, 1) := by decide +kernel
theorem zd_MReader_track_60 : decode zb_MReader_track 60 = .ok (.invokevirtual 121, 3) := by decide +kernel
theorem zd_MReader_track_63 : decode zb_MReader_track 63 = .ok (.iastore, 1) := by decide +kernel
theorem zd_MReader_track_64 : decode zb_MReader_track 64 = .ok (.aload_n 0, 1) := by decide +kernel
theorem zd_MReader_track_65 : decode zb_MReader_track 65 = .ok (.bipush 44, 2) := by decide +kernel
theorem zd_MReader_track_67 : decode zb_MReader_track 67 = .ok (.invokevirtual 55, 3) := by decide +kernel
theorem zd_MReader_track_70 : decode zb_MReader_track 70 = .ok (.aload_n 0, 1) := by decide +kernel
theorem zd_MReader_track_71 : decode zb_MReader_track 71 = .ok (.ldc 230, 2) := by decide +kernel
theorem zd_MReader_track_73 : decode zb_MReader_track 73 = .ok (.aload_n 2, 1) := by decide +kernel
theorem zd_MReader_track_74 : decode zb_MReader_track 74 = .ok (.getfield 232, 3) := by decide +kernel
theorem zd_MReader_track_77 : decode zb_MReader_track 77 = .ok (.bipush 32, 2) := by decide +kernel
theorem zd_MReader_track_79 : decode zb_MReader_track 79 = .ok (.iload_n 1, 1) := by decide +kernel
theorem zd_MReader_track_80 : decode zb_MReader_track 80 = .ok (.imul, 1) := by decide +kernel
theorem zd_MReader_track_81 : decode zb_MReader_track 81 = .ok (.bipush 7, 2) := by decide +kernel
theorem zd_MReader_track_83 : decode zb_MReader_track 83 = .ok (.iconst 1, 1) := by decide +kernel
theorem zd_MReader_track_84 : decode zb_MReader_track 84 = .ok (.bipush 32, 2) := by decide +kernel
theorem zd_MReader_track_86 : decode zb_MReader_track 86 = .ok (.iconst 1, 1) := by decide +kernel
theorem zd_MReader_track_87 : decode zb_MReader_track 87 = .ok (.iconst 0, 1) := by decide +kernel
theorem zd_MReader_track_88 : decode zb_MReader_track 88 = .ok (.invokevirtual 110, 3) := by decide +kernel
theorem zd_MReader_track_91 : decode zb_MReader_track 91 = .ok (.aload_n 0, 1) := by decide +kernel
theorem zd_MReader_track_92 : decode zb_MReader_track 92 = .ok (.getfield 103, 3) := by decide +kernel
theorem zd_MReader_track_95 : decode zb_MReader_track 95 = .ok (.istore_n 3, 1) := by decide +kernel
theorem zd_MReader_track_96 : decode zb_MReader_track 96 = .ok (.aload_n 2, 1) := by decide +kernel
theorem zd_MReader_track_97 : decode zb_MReader_track 97 = .ok (.getfield 235, 3) := by decide +kernel
theorem zd_MReader_track_100 : decode zb_MReader_track 100 = .ok (.iload_n 1, 1) := by decide +kernel
theorem zd_MReader_track_101 : decode zb_MReader_track 101 = .ok (.iload_n 3, 1) := by decide +kernel
theorem zd_MReader_track_102 : decode zb_MReader_track 102 = .ok (.iastore, 1) := by decide +kernel
theorem zd_MReader_track_103 : decode zb_MReader_track 103 = .ok (.aload_n 0, 1) := by decide +kernel
theorem zd_MReader_track_104 : decode zb_MReader_track 104 = .ok (.bipush 44, 2) := by decide +kernel
theorem zd_MReader_track_106 : decode zb_MReader_track 106 = .ok (.invokevirtual 55, 3) := by decide +kernel
theorem zd_MReader_track_109 : decode zb_MReader_track 109 = .ok (.aload_n 0, 1) := by decide +kernel
theorem zd_MReader_track_110 : decode zb_MReader_track 110 = .ok (.ldc 238, 2) := by decide +kernel
theorem zd_MReader_track_112 : decode zb_MReader_track 112 = .ok (.aload_n 2, 1) := by decide +kernel
theorem zd_MReader_track_113 : decode zb_MReader_track 113 = .ok (.getfield 240, 3) := by decide +kernel
theorem zd_MReader_track_116 : decode zb_MReader_track 116 = .ok (.bipush 96, 2) := by decide +kernel
theorem zd_MReader_track_118 : decode zb_MReader_track 118 = .ok (.iload_n 1, 1) := by decide +kernel
theorem zd_MReader_track_119 : decode zb_MReader_track 119 = .ok (.imul, 1) := by decide +kernel
theorem zd_MReader_track_120 : decode zb_MReader_track 120 = .ok (.aload_n 2, 1) := by decide +kernel
theorem zd_MReader_track_121 : decode zb_MReader_track 121 = .ok (.getfield 222, 3) := by decide +kernel
theorem zd_MReader_track_124 : decode zb_MReader_track 124 = .ok (.iload_n 1, 1) := by decide +kernel
theorem zd_MReader_track_125 : decode zb_MReader_track 125 = .ok (.iaload, 1) := by decide +kernel
theorem zd_MReader_track_126 : decode zb_MReader_track 126 = .ok (.ifCond .ne 7, 3) := by decide +kernel
theorem zd_MReader_track_129 : decode zb_MReader_track 129 = .ok (.iconst 5, 1) := by decide +kernel
theorem zd_MReader_track_130 : decode zb_MReader_track 130 = .ok (.goto 5, 3) := by decide +kernel
theorem zd_MReader_track_133 : decode zb_MReader_track 133 = .ok (.bipush 6, 2) := by decide +kernel
theorem zd_MReader_track_135 : decode zb_MReader_track 135 = .ok (.iconst 3, 1) := by decide +kernel
theorem zd_MReader_track_136 : decode zb_MReader_track 136 = .ok (.iload_n 3, 1) := by decide +kernel
theorem zd_MReader_track_137 : decode zb_MReader_track 137 = .ok (.imul, 1) := by decide +kernel
theorem zd_MReader_track_138 : decode zb_MReader_track 138 = .ok (.iconst 3, 1) := by decide +kernel
theorem zd_MReader_track_139 : decode zb_MReader_track 139 = .ok (.iload_n 3, 1) := by decide +kernel
theorem zd_MReader_track_140 : decode zb_MReader_track 140 = .ok (.imul, 1) := by decide +kernel
theorem zd_MReader_track_141 : decode zb_MReader_track 141 = .ok (.iconst 1, 1) := by decide +kernel
theorem zd_MReader_track_142 : decode zb_MReader_track 142 = .ok (.iconst 0, 1) := by decide +kernel
theorem zd_MReader_track_143 : decode zb_MReader_track 143 = .ok (.invokevirtual 110, 3) := by decide +kernel
theorem zd_MReader_track_146 : decode zb_MReader_track 146 = .ok (.return_, 1) := by decide +kernel
theorem zw_1393 : (Jvm.Cond.fieldLink "OrreryBoxModel$Reader" (214 : Nat) "OrreryBoxModel$Scene" "trackNode" "[I") ∈ gw := gw_t 1393 (by decide +kernel) rfl
theorem zw_1326 : (Jvm.Cond.fieldLink "OrreryBoxModel$Reader" (219 : Nat) "OrreryBoxModel$Scene" "nodes" "I") ∈ gw := gw_t 1326 (by decide +kernel) rfl
theorem zw_1395 : (Jvm.Cond.fieldLink "OrreryBoxModel$Reader" (222 : Nat) "OrreryBoxModel$Scene" "what" "[I") ∈ gw := gw_t 1395 (by decide +kernel) rfl
theorem zw_1397 : (Jvm.Cond.fieldLink "OrreryBoxModel$Reader" (226 : Nat) "OrreryBoxModel$Scene" "how" "[I") ∈ gw := gw_t 1397 (by decide +kernel) rfl
theorem zw_1401 : (Jvm.Cond.fieldLink "OrreryBoxModel$Reader" (232 : Nat) "OrreryBoxModel$Scene" "when" "[I") ∈ gw := gw_t 1401 (by decide +kernel) rfl
theorem zw_1399 : (Jvm.Cond.fieldLink "OrreryBoxModel$Reader" (235 : Nat) "OrreryBoxModel$Scene" "keys" "[I") ∈ gw := gw_t 1399 (by decide +kernel) rfl
theorem zw_1403 : (Jvm.Cond.fieldLink "OrreryBoxModel$Reader" (240 : Nat) "OrreryBoxModel$Scene" "value" "[I") ∈ gw := gw_t 1403 (by decide +kernel) rfl
def F_MReader_track (sh : zSh) (mm : zMem) (o : Nat) (x0_ : Int32) : Option zMem := zoS (sh o) 14 (fun le2 => Option.bind (mm.2.2 o 1) (fun a3 => zoS (sh a3) 15 (fun le5 => Option.bind (mm.2.2 a3 25) (fun a6 => zoS (sh a3) 15 (fun le8 => zoS (sh o) 14 (fun le10 => Option.bind (F_MReader_single sh mm o 59 0 ((mm.1 a3 3) - 1)) (fun p11 => zoS (sh a6) 100 (fun le13 => if (x0_ : Int32) < 0 ∨ le13 ≤ (x0_ : Int32).toNatClampNeg then none else zoL (mI (p11.2) a6 (x0_ : Int32).toNatClampNeg (p11.1)) (fun mm15 => zoS (sh o) 14 (fun le17 => Option.bind (F_MReader_sign sh mm15 o 44) (fun p18 => zoS (sh a3) 15 (fun le20 => Option.bind (p18.2.2 a3 26) (fun a21 => zoS (sh o) 14 (fun le23 => Option.bind (F_MReader_single sh p18 o 60 0 2) (fun p24 => zoS (sh a21) 100 (fun le26 => if (x0_ : Int32) < 0 ∨ le26 ≤ (x0_ : Int32).toNatClampNeg then none else zoL (mI (p24.2) a21 (x0_ : Int32).toNatClampNeg (p24.1)) (fun mm28 => zoS (sh o) 14 (fun le30 => Option.bind (F_MReader_sign sh mm28 o 44) (fun p31 => zoS (sh a3) 15 (fun le33 => Option.bind (p31.2.2 a3 27) (fun a34 => zoS (sh o) 14 (fun le36 => Option.bind (F_MReader_single sh p31 o 61 0 2) (fun p37 => zoS (sh a34) 100 (fun le39 => if (x0_ : Int32) < 0 ∨ le39 ≤ (x0_ : Int32).toNatClampNeg then none else zoL (mI (p37.2) a34 (x0_ : Int32).toNatClampNeg (p37.1)) (fun mm41 => zoS (sh o) 14 (fun le43 => Option.bind (F_MReader_sign sh mm41 o 44) (fun p44 => zoS (sh a3) 15 (fun le46 => Option.bind (p44.2.2 a3 29) (fun a47 => zoS (sh o) 14 (fun le49 => Option.bind (F_MReader_numbers sh p44 o 62 a47 (32 * x0_) 7 1 32 1 0) (fun p50 => zoS (sh o) 14 (fun le52 => zoL (p50.1 o 9) (fun x53 => zoS (sh a3) 15 (fun le55 => Option.bind (p50.2.2 a3 28) (fun a56 => zoS (sh a56) 100 (fun le58 => if (x0_ : Int32) < 0 ∨ le58 ≤ (x0_ : Int32).toNatClampNeg then none else zoL (mI p50 a56 (x0_ : Int32).toNatClampNeg x53) (fun mm60 => zoS (sh o) 14 (fun le62 => Option.bind (F_MReader_sign sh mm60 o 44) (fun p63 => zoS (sh a3) 15 (fun le65 => Option.bind (p63.2.2 a3 30) (fun a66 => zoS (sh a3) 15 (fun le68 => Option.bind (p63.2.2 a3 26) (fun a69 => zoS (sh a69) 100 (fun le71 => if (x0_ : Int32) < 0 ∨ le71 ≤ (x0_ : Int32).toNatClampNeg then none else (if (p63.1 a69 (x0_ : Int32).toNatClampNeg) = 0 then zoS (sh o) 14 (fun le78 => Option.bind (F_MReader_numbers sh p63 o 63 a66 (96 * x0_) 5 (3 * x53) (3 * x53) 1 0) (fun p79 => some p79)) else zoS (sh o) 14 (fun le75 => Option.bind (F_MReader_numbers sh p63 o 63 a66 (96 * x0_) 6 (3 * x53) (3 * x53) 1 0) (fun p76 => some p76)))))))))))))))))))))))))))))))))))))))))))))))
set_option maxHeartbeats 4000000 in
set_option maxRecDepth 100000 in
theorem k_MReader_track (l : Launch) (D : va_G) (tA : Nat → ClassId) (b : Nat) (sh : zSh) (n : Nat) {mm : zMem} {o : Nat} {x0_ : Int32} {r : zMem} (h : F_MReader_track sh mm o x0_ = some r) : zM l D tA b zy_MReader_track zb_MReader_track 4 none 7 157 0 0 [.ref (b + o), .int x0_] (zW tA b sh mm) n (zE none (zW tA b sh r) n) := by
  unfold F_MReader_track at h
  refine zM_of (own := "OrreryBoxModel$Reader") (plainFor_of_name (by decide)) rfl (Nat.le_of_ble_eq_true rfl) (fun p e s m below meth c F hr hin hH => ?_)
  refine zr_aload_n F zd_MReader_track_0 rfl ?_
  obtain ⟨le2, hs1, h⟩ := zoS_s h
  obtain ⟨a3, ea3, h⟩ := zoB_s h
  refine zr_get F 14 1 zd_MReader_track_1 (zW_o hs1 (by decide)) rfl (by decide) zw_1505 rfl (by rfl) ?_
  refine zr_tor ea3 ?_
  refine zr_astore_n F zd_MReader_track_4 (by decide) ?_
  refine zr_aload_n F zd_MReader_track_5 rfl ?_
  obtain ⟨le5, hs4, h⟩ := zoS_s h
  obtain ⟨a6, ea6, h⟩ := zoB_s h
  refine zr_get F 15 25 zd_MReader_track_6 (zW_o hs4 (by decide)) rfl (by decide) zw_1393 rfl (by rfl) ?_
  refine zr_tor ea6 ?_
  refine zr_iload_n F zd_MReader_track_9 rfl ?_
  refine zr_aload_n F zd_MReader_track_10 rfl ?_
  refine zr_pcn 11 rfl ?_
  refine zr_ldcS F 59 "node" zd_MReader_track_11 (by decide +kernel) ?_
  refine zr_iconstv (v := 0) F zd_MReader_track_13 (by decide) ?_
  refine zr_aload_n F zd_MReader_track_14 rfl ?_
  obtain ⟨le8, hs7, h⟩ := zoS_s h
  refine zr_get F 15 3 zd_MReader_track_15 (zW_o hs7 (by decide)) rfl (by decide) zw_1326 rfl (by rfl) ?_
  refine zr_iconstv (v := 1) F zd_MReader_track_18 (by decide) ?_
  refine zr_isub F zd_MReader_track_19 ?_
  obtain ⟨le10, hs9, h⟩ := zoS_s h
  obtain ⟨p11, ep11, h⟩ := zoB_s h
  refine zr_callV1 F (k_MReader_single l D tA b sh _ ep11) zd_MReader_track_20 (zW_o hs9 (by decide)) rfl zs_MReader_121 rfl zq_MReader_single rfl rfl ⟨(Nat.le_of_ble_eq_true rfl), (Nat.le_of_ble_eq_true rfl)⟩ (Nat.le_of_ble_eq_true rfl) ⟨(Nat.le_of_ble_eq_true rfl), (Nat.le_of_ble_eq_true rfl)⟩ ?_
  obtain ⟨le13, hs12, h⟩ := zoS_s h
  obtain ⟨hi14, h⟩ := zoI_s h
  refine zr_iast F zd_MReader_track_23 (zW_a0 hs12) hi14 ?_
  obtain ⟨mm15, emm15, h⟩ := zoL_s h
  refine zr_norm (zW tA b sh mm15) _ (by rw [emm15]; exact zW_s0 hs12) rfl ?_
  refine zr_pcn 24 rfl ?_
  refine zr_aload_n F zd_MReader_track_24 rfl ?_
  refine zr_bipushv (v := 44) F zd_MReader_track_25 (by decide) ?_
  obtain ⟨le17, hs16, h⟩ := zoS_s h
  obtain ⟨p18, ep18, h⟩ := zoB_s h
  refine zr_callV0 F (k_MReader_sign l D tA b sh _ ep18) zd_MReader_track_27 (zW_o hs16 (by decide)) rfl zs_MReader_55 rfl zq_MReader_sign rfl rfl ⟨(Nat.le_of_ble_eq_true rfl), (Nat.le_of_ble_eq_true rfl)⟩ (Nat.le_of_ble_eq_true rfl) ⟨(Nat.le_of_ble_eq_true rfl), (Nat.le_of_ble_eq_true rfl)⟩ ?_
  refine zr_aload_n F zd_MReader_track_30 rfl ?_
  obtain ⟨le20, hs19, h⟩ := zoS_s h
  obtain ⟨a21, ea21, h⟩ := zoB_s h
  refine zr_get F 15 26 zd_MReader_track_31 (zW_o hs19 (by decide)) rfl (by decide) zw_1395 rfl (by rfl) ?_
  refine zr_tor ea21 ?_
  refine zr_iload_n F zd_MReader_track_34 rfl ?_
  refine zr_aload_n F zd_MReader_track_35 rfl ?_
  refine zr_ldcS F 60 "what" zd_MReader_track_36 (by decide +kernel) ?_
  refine zr_pcn 38 rfl ?_
  refine zr_iconstv (v := 0) F zd_MReader_track_38 (by decide) ?_
  refine zr_iconstv (v := 2) F zd_MReader_track_39 (by decide) ?_
  obtain ⟨le23, hs22, h⟩ := zoS_s h
  obtain ⟨p24, ep24, h⟩ := zoB_s h
  refine zr_callV1 F (k_MReader_single l D tA b sh _ ep24) zd_MReader_track_40 (zW_o hs22 (by decide)) rfl zs_MReader_121 rfl zq_MReader_single rfl rfl ⟨(Nat.le_of_ble_eq_true rfl), (Nat.le_of_ble_eq_true rfl)⟩ (Nat.le_of_ble_eq_true rfl) ⟨(Nat.le_of_ble_eq_true rfl), (Nat.le_of_ble_eq_true rfl)⟩ ?_
  obtain ⟨le26, hs25, h⟩ := zoS_s h
  obtain ⟨hi27, h⟩ := zoI_s h
  refine zr_iast F zd_MReader_track_43 (zW_a0 hs25) hi27 ?_
  obtain ⟨mm28, emm28, h⟩ := zoL_s h
  refine zr_norm (zW tA b sh mm28) _ (by rw [emm28]; exact zW_s0 hs25) rfl ?_
  refine zr_aload_n F zd_MReader_track_44 rfl ?_
  refine zr_bipushv (v := 44) F zd_MReader_track_45 (by decide) ?_
  obtain ⟨le30, hs29, h⟩ := zoS_s h
  obtain ⟨p31, ep31, h⟩ := zoB_s h
  refine zr_callV0 F (k_MReader_sign l D tA b sh _ ep31) zd_MReader_track_47 (zW_o hs29 (by decide)) rfl zs_MReader_55 rfl zq_MReader_sign rfl rfl ⟨(Nat.le_of_ble_eq_true rfl), (Nat.le_of_ble_eq_true rfl)⟩ (Nat.le_of_ble_eq_true rfl) ⟨(Nat.le_of_ble_eq_true rfl), (Nat.le_of_ble_eq_true rfl)⟩ ?_
  refine zr_aload_n F zd_MReader_track_50 rfl ?_
  refine zr_pcn 51 rfl ?_
  obtain ⟨le33, hs32, h⟩ := zoS_s h
  obtain ⟨a34, ea34, h⟩ := zoB_s h
  refine zr_get F 15 27 zd_MReader_track_51 (zW_o hs32 (by decide)) rfl (by decide) zw_1397 rfl (by rfl) ?_
  refine zr_tor ea34 ?_
  refine zr_iload_n F zd_MReader_track_54 rfl ?_
  refine zr_aload_n F zd_MReader_track_55 rfl ?_
  refine zr_ldcS F 61 "how" zd_MReader_track_56 (by decide +kernel) ?_
  refine zr_iconstv (v := 0) F zd_MReader_track_58 (by decide) ?_
  refine zr_iconstv (v := 2) F zd_MReader_track_59 (by decide) ?_
  obtain ⟨le36, hs35, h⟩ := zoS_s h
  obtain ⟨p37, ep37, h⟩ := zoB_s h
  refine zr_callV1 F (k_MReader_single l D tA b sh _ ep37) zd_MReader_track_60 (zW_o hs35 (by decide)) rfl zs_MReader_121 rfl zq_MReader_single rfl rfl ⟨(Nat.le_of_ble_eq_true rfl), (Nat.le_of_ble_eq_true rfl)⟩ (Nat.le_of_ble_eq_true rfl) ⟨(Nat.le_of_ble_eq_true rfl), (Nat.le_of_ble_eq_true rfl)⟩ ?_
  obtain ⟨le39, hs38, h⟩ := zoS_s h
  obtain ⟨hi40, h⟩ := zoI_s h
  refine zr_iast F zd_MReader_track_63 (zW_a0 hs38) hi40 ?_
  obtain ⟨mm41, emm41, h⟩ := zoL_s h
  refine zr_norm (zW tA b sh mm41) _ (by rw [emm41]; exact zW_s0 hs38) rfl ?_
  refine zr_pcn 64 rfl ?_
  refine zr_aload_n F zd_MReader_track_64 rfl ?_
  refine zr_bipushv (v := 44) F zd_MReader_track_65 (by decide) ?_
  obtain ⟨le43, hs42, h⟩ := zoS_s h
  obtain ⟨p44, ep44, h⟩ := zoB_s h
  refine zr_callV0 F (k_MReader_sign l D tA b sh _ ep44) zd_MReader_track_67 (zW_o hs42 (by decide)) rfl zs_MReader_55 rfl zq_MReader_sign rfl rfl ⟨(Nat.le_of_ble_eq_true rfl), (Nat.le_of_ble_eq_true rfl)⟩ (Nat.le_of_ble_eq_true rfl) ⟨(Nat.le_of_ble_eq_true rfl), (Nat.le_of_ble_eq_true rfl)⟩ ?_
  refine zr_aload_n F zd_MReader_track_70 rfl ?_
  refine zr_ldcS F 62 "times" zd_MReader_track_71 (by decide +kernel) ?_
  refine zr_aload_n F zd_MReader_track_73 rfl ?_
  obtain ⟨le46, hs45, h⟩ := zoS_s h
  obtain ⟨a47, ea47, h⟩ := zoB_s h
  refine zr_get F 15 29 zd_MReader_track_74 (zW_o hs45 (by decide)) rfl (by decide) zw_1401 rfl (by rfl) ?_
  refine zr_tor ea47 ?_
  refine zr_bipushv (v := 32) F zd_MReader_track_77 (by decide) ?_
  refine zr_pcn 79 rfl ?_
  refine zr_iload_n F zd_MReader_track_79 rfl ?_
  refine zr_imul F zd_MReader_track_80 ?_
  refine zr_bipushv (v := 7) F zd_MReader_track_81 (by decide) ?_
  refine zr_iconstv (v := 1) F zd_MReader_track_83 (by decide) ?_
  refine zr_bipushv (v := 32) F zd_MReader_track_84 (by decide) ?_
  refine zr_iconstv (v := 1) F zd_MReader_track_86 (by decide) ?_
  refine zr_iconstv (v := 0) F zd_MReader_track_87 (by decide) ?_
  obtain ⟨le49, hs48, h⟩ := zoS_s h
  obtain ⟨p50, ep50, h⟩ := zoB_s h
  refine zr_callV0 F (k_MReader_numbers l D tA b sh _ ep50) zd_MReader_track_88 (zW_o hs48 (by decide)) rfl zs_MReader_110 rfl zq_MReader_numbers rfl rfl ⟨(Nat.le_of_ble_eq_true rfl), (Nat.le_of_ble_eq_true rfl)⟩ (Nat.le_of_ble_eq_true rfl) ⟨(Nat.le_of_ble_eq_true rfl), (Nat.le_of_ble_eq_true rfl)⟩ ?_
  refine zr_pcn 91 rfl ?_
  refine zr_aload_n F zd_MReader_track_91 rfl ?_
  obtain ⟨le52, hs51, h⟩ := zoS_s h
  refine zr_get F 14 9 zd_MReader_track_92 (zW_o hs51 (by decide)) rfl (by decide) zw_1515 rfl (by rfl) ?_
  obtain ⟨x53, ex53, h⟩ := zoL_s h
  rw [← ex53]
  refine zr_istore_n F zd_MReader_track_95 (by decide) ?_
  refine zr_aload_n F zd_MReader_track_96 rfl ?_
  obtain ⟨le55, hs54, h⟩ := zoS_s h
  obtain ⟨a56, ea56, h⟩ := zoB_s h
  refine zr_get F 15 28 zd_MReader_track_97 (zW_o hs54 (by decide)) rfl (by decide) zw_1399 rfl (by rfl) ?_
  refine zr_tor ea56 ?_
  refine zr_iload_n F zd_MReader_track_100 rfl ?_
  refine zr_iload_n F zd_MReader_track_101 rfl ?_
  obtain ⟨le58, hs57, h⟩ := zoS_s h
  obtain ⟨hi59, h⟩ := zoI_s h
  refine zr_iast F zd_MReader_track_102 (zW_a0 hs57) hi59 ?_
  obtain ⟨mm60, emm60, h⟩ := zoL_s h
  refine zr_norm (zW tA b sh mm60) _ (by rw [emm60]; exact zW_s0 hs57) rfl ?_
  refine zr_pcn 103 rfl ?_
  refine zr_aload_n F zd_MReader_track_103 rfl ?_
  refine zr_bipushv (v := 44) F zd_MReader_track_104 (by decide) ?_
  obtain ⟨le62, hs61, h⟩ := zoS_s h
  obtain ⟨p63, ep63, h⟩ := zoB_s h
  refine zr_callV0 F (k_MReader_sign l D tA b sh _ ep63) zd_MReader_track_106 (zW_o hs61 (by decide)) rfl zs_MReader_55 rfl zq_MReader_sign rfl rfl ⟨(Nat.le_of_ble_eq_true rfl), (Nat.le_of_ble_eq_true rfl)⟩ (Nat.le_of_ble_eq_true rfl) ⟨(Nat.le_of_ble_eq_true rfl), (Nat.le_of_ble_eq_true rfl)⟩ ?_
  refine zr_aload_n F zd_MReader_track_109 rfl ?_
  refine zr_ldcS F 63 "values" zd_MReader_track_110 (by decide +kernel) ?_
  refine zr_aload_n F zd_MReader_track_112 rfl ?_
  obtain ⟨le65, hs64, h⟩ := zoS_s h
  obtain ⟨a66, ea66, h⟩ := zoB_s h
  refine zr_get F 15 30 zd_MReader_track_113 (zW_o hs64 (by decide)) rfl (by decide) zw_1403 rfl (by rfl) ?_
  refine zr_tor ea66 ?_
  refine zr_bipushv (v := 96) F zd_MReader_track_116 (by decide) ?_
  refine zr_pcn 118 rfl ?_
  refine zr_iload_n F zd_MReader_track_118 rfl ?_
  refine zr_imul F zd_MReader_track_119 ?_
  refine zr_aload_n F zd_MReader_track_120 rfl ?_
  obtain ⟨le68, hs67, h⟩ := zoS_s h
  obtain ⟨a69, ea69, h⟩ := zoB_s h
  refine zr_get F 15 26 zd_MReader_track_121 (zW_o hs67 (by decide)) rfl (by decide) zw_1395 rfl (by rfl) ?_
  refine zr_tor ea69 ?_
  refine zr_iload_n F zd_MReader_track_124 rfl ?_
  obtain ⟨le71, hs70, h⟩ := zoS_s h
  obtain ⟨hi72, h⟩ := zoI_s h
  refine zr_iald F zd_MReader_track_125 (zW_a0 hs70) hi72 ?_
  refine zr_if_ne F 133 zd_MReader_track_126 (by decide) (fun hb73 => ?_) (fun hb73 => ?_)
  ·
    rw [if_neg hb73] at h
    refine zr_bipushv (v := 6) F zd_MReader_track_133 (by decide) ?_
    refine zr_pcn 135 rfl ?_
    refine zr_iconstv (v := 3) F zd_MReader_track_135 (by decide) ?_
    refine zr_iload_n F zd_MReader_track_136 rfl ?_
    refine zr_imul F zd_MReader_track_137 ?_
    refine zr_iconstv (v := 3) F zd_MReader_track_138 (by decide) ?_
    refine zr_iload_n F zd_MReader_track_139 rfl ?_
    refine zr_imul F zd_MReader_track_140 ?_
    refine zr_iconstv (v := 1) F zd_MReader_track_141 (by decide) ?_
    refine zr_iconstv (v := 0) F zd_MReader_track_142 (by decide) ?_
    refine zr_pcn 143 rfl ?_
    obtain ⟨le75, hs74, h⟩ := zoS_s h
    obtain ⟨p76, ep76, h⟩ := zoB_s h
    refine zr_callV0 F (k_MReader_numbers l D tA b sh _ ep76) zd_MReader_track_143 (zW_o hs74 (by decide)) rfl zs_MReader_110 rfl zq_MReader_numbers rfl rfl ⟨(Nat.le_of_ble_eq_true rfl), (Nat.le_of_ble_eq_true rfl)⟩ (Nat.le_of_ble_eq_true rfl) ⟨(Nat.le_of_ble_eq_true rfl), (Nat.le_of_ble_eq_true rfl)⟩ ?_
    obtain rfl := Option.some.inj h
    exact zr_vret F hr zd_MReader_track_146 (Nat.le_of_ble_eq_true rfl) (Nat.le_of_ble_eq_true rfl) ⟨rfl, rfl, rfl⟩
  ·
    rw [if_pos hb73] at h
    refine zr_iconstv (v := 5) F zd_MReader_track_129 (by decide) ?_
    refine zr_goto F 135 zd_MReader_track_130 (by decide) ?_
    refine zr_iconstv (v := 3) F zd_MReader_track_135 (by decide) ?_
    refine zr_iload_n F zd_MReader_track_136 rfl ?_
    refine zr_imul F zd_MReader_track_137 ?_
    refine zr_iconstv (v := 3) F zd_MReader_track_138 (by decide) ?_
    refine zr_pcn 139 rfl ?_
    refine zr_iload_n F zd_MReader_track_139 rfl ?_
    refine zr_imul F zd_MReader_track_140 ?_
    refine zr_iconstv (v := 1) F zd_MReader_track_141 (by decide) ?_
    refine zr_iconstv (v := 0) F zd_MReader_track_142 (by decide) ?_
    obtain ⟨le78, hs77, h⟩ := zoS_s h
    obtain ⟨p79, ep79, h⟩ := zoB_s h
    refine zr_callV0 F (k_MReader_numbers l D tA b sh _ ep79) zd_MReader_track_143 (zW_o hs77 (by decide)) rfl zs_MReader_110 rfl zq_MReader_numbers rfl rfl ⟨(Nat.le_of_ble_eq_true rfl), (Nat.le_of_ble_eq_true rfl)⟩ (Nat.le_of_ble_eq_true rfl) ⟨(Nat.le_of_ble_eq_true rfl), (Nat.le_of_ble_eq_true rfl)⟩ ?_
    obtain rfl := Option.some.inj h
    exact zr_vret F hr zd_MReader_track_146 (Nat.le_of_ble_eq_true rfl) (Nat.le_of_ble_eq_true rfl) ⟨rfl, rfl, rfl⟩
abbrev zb_MReader_thing : ByteArray := prog_17_method_20_code
def zy_MReader_thing : MethodName := ⟨"OrreryBoxModel$Reader", "thing", "(II)V"⟩
theorem zc_MReader_thing : Cond.code zy_MReader_thing zb_MReader_thing 3 none ∈ gw := gw_t 1812 (by decide +kernel) rfl
theorem zq_MReader_thing : zy_MReader_thing.cls ≠ "java/lang/invoke/MethodHandle" ∧ zy_MReader_thing.cls ≠ "java/lang/invoke/VarHandle" ∧ (parseMethodDescriptor zy_MReader_thing.desc).map (fun d => d.parameters.length) = some 2 := by decide +kernel
theorem zd_MReader_thing_0 : decode zb_MReader_thing 0 = .ok (.aload_n 0, 1) := by decide +kernel
theorem zd_MReader_thing_1 : decode zb_MReader_thing 1 = .ok (.bipush 123, 2) := by decide +kernel
theorem zd_MReader_thing_3 : decode zb_MReader_thing 3 = .ok (.invokevirtual 55, 3) := by decide +kernel
theorem zd_MReader_thing_6 : decode zb_MReader_thing 6 = .ok (.aload_n 0, 1) := by decide +kernel
theorem zd_MReader_thing_7 : decode zb_MReader_thing 7 = .ok (.getfield 17, 3) := by decide +kernel
theorem zd_MReader_thing_10 : decode zb_MReader_thing 10 = .ok (.ifCond .eq 4, 3) := by decide +kernel
theorem zd_MReader_thing_13 : decode zb_MReader_thing 13 = .ok (.return_, 1) := by decide +kernel
theorem zd_MReader_thing_14 : decode zb_MReader_thing 14 = .ok (.iload_n 1, 1) := by decide +kernel
theorem zd_MReader_thing_15 : decode zb_MReader_thing 15 = .ok (.ifCond .ne 8, 3) := by decide +kernel
theorem zd_MReader_thing_18 : decode zb_MReader_thing 18 = .ok (.aload_n 0, 1) := by decide +kernel
theorem zd_MReader_thing_19 : decode zb_MReader_thing 19 = .ok (.iload_n 2, 1) := by decide +kernel
theorem zd_MReader_thing_20 : decode zb_MReader_thing 20 = .ok (.invokevirtual 243, 3) := by decide +kernel
theorem zd_MReader_thing_23 : decode zb_MReader_thing 23 = .ok (.iload_n 1, 1) := by decide +kernel
theorem zd_MReader_thing_24 : decode zb_MReader_thing 24 = .ok (.iconst 1, 1) := by decide +kernel
theorem zd_MReader_thing_25 : decode zb_MReader_thing 25 = .ok (.if_icmp .ne 8, 3) := by decide +kernel
theorem zd_MReader_thing_28 : decode zb_MReader_thing 28 = .ok (.aload_n 0, 1) := by decide +kernel
theorem zd_MReader_thing_29 : decode zb_MReader_thing 29 = .ok (.iload_n 2, 1) := by decide +kernel
theorem zd_MReader_thing_30 : decode zb_MReader_thing 30 = .ok (.invokevirtual 245, 3) := by decide +kernel
theorem zd_MReader_thing_33 : decode zb_MReader_thing 33 = .ok (.iload_n 1, 1) := by decide +kernel
theorem zd_MReader_thing_34 : decode zb_MReader_thing 34 = .ok (.iconst 2, 1) := by decide +kernel
theorem zd_MReader_thing_35 : decode zb_MReader_thing 35 = .ok (.if_icmp .ne 8, 3) := by decide +kernel
theorem zd_MReader_thing_38 : decode zb_MReader_thing 38 = .ok (.aload_n 0, 1) := by decide +kernel
theorem zd_MReader_thing_39 : decode zb_MReader_thing 39 = .ok (.iload_n 2, 1) := by decide +kernel
theorem zd_MReader_thing_40 : decode zb_MReader_thing 40 = .ok (.invokevirtual 247, 3) := by decide +kernel
theorem zd_MReader_thing_43 : decode zb_MReader_thing 43 = .ok (.iload_n 1, 1) := by decide +kernel
theorem zd_MReader_thing_44 : decode zb_MReader_thing 44 = .ok (.iconst 3, 1) := by decide +kernel
theorem zd_MReader_thing_45 : decode zb_MReader_thing 45 = .ok (.if_icmp .ne 8, 3) := by decide +kernel
theorem zd_MReader_thing_48 : decode zb_MReader_thing 48 = .ok (.aload_n 0, 1) := by decide +kernel
theorem zd_MReader_thing_49 : decode zb_MReader_thing 49 = .ok (.iload_n 2, 1) := by decide +kernel
theorem zd_MReader_thing_50 : decode zb_MReader_thing 50 = .ok (.invokevirtual 249, 3) := by decide +kernel
theorem zd_MReader_thing_53 : decode zb_MReader_thing 53 = .ok (.iload_n 1, 1) := by decide +kernel
theorem zd_MReader_thing_54 : decode zb_MReader_thing 54 = .ok (.iconst 4, 1) := by decide +kernel
theorem zd_MReader_thing_55 : decode zb_MReader_thing 55 = .ok (.if_icmp .ne 8, 3) := by decide +kernel
theorem zd_MReader_thing_58 : decode zb_MReader_thing 58 = .ok (.aload_n 0, 1) := by decide +kernel
theorem zd_MReader_thing_59 : decode zb_MReader_thing 59 = .ok (.iload_n 2, 1) := by decide +kernel
theorem zd_MReader_thing_60 : decode zb_MReader_thing 60 = .ok (.invokevirtual 251, 3) := by decide +kernel
theorem zd_MReader_thing_63 : decode zb_MReader_thing 63 = .ok (.aload_n 0, 1) := by decide +kernel
theorem zd_MReader_thing_64 : decode zb_MReader_thing 64 = .ok (.bipush 125, 2) := by decide +kernel
theorem zd_MReader_thing_66 : decode zb_MReader_thing 66 = .ok (.invokevirtual 55, 3) := by decide +kernel
theorem zd_MReader_thing_69 : decode zb_MReader_thing 69 = .ok (.aload_n 0, 1) := by decide +kernel
theorem zd_MReader_thing_70 : decode zb_MReader_thing 70 = .ok (.getfield 17, 3) := by decide +kernel
theorem zd_MReader_thing_73 : decode zb_MReader_thing 73 = .ok (.ifCond .eq 4, 3) := by decide +kernel
theorem zd_MReader_thing_76 : decode zb_MReader_thing 76 = .ok (.return_, 1) := by decide +kernel
theorem zd_MReader_thing_77 : decode zb_MReader_thing 77 = .ok (.iload_n 1, 1) := by decide +kernel
theorem zd_MReader_thing_78 : decode zb_MReader_thing 78 = .ok (.ifCond .ne 13, 3) := by decide +kernel
theorem zd_MReader_thing_81 : decode zb_MReader_thing 81 = .ok (.aload_n 0, 1) := by decide +kernel
theorem zd_MReader_thing_82 : decode zb_MReader_thing 82 = .ok (.getfield 13, 3) := by decide +kernel
theorem zd_MReader_thing_85 : decode zb_MReader_thing 85 = .ok (.iload_n 2, 1) := by decide +kernel
theorem zd_MReader_thing_86 : decode zb_MReader_thing 86 = .ok (.iconst 1, 1) := by decide +kernel
theorem zd_MReader_thing_87 : decode zb_MReader_thing 87 = .ok (.iadd, 1) := by decide +kernel
theorem zd_MReader_thing_88 : decode zb_MReader_thing 88 = .ok (.putfield 146, 3) := by decide +kernel
theorem zd_MReader_thing_91 : decode zb_MReader_thing 91 = .ok (.iload_n 1, 1) := by decide +kernel
theorem zd_MReader_thing_92 : decode zb_MReader_thing 92 = .ok (.iconst 1, 1) := by decide +kernel
theorem zd_MReader_thing_93 : decode zb_MReader_thing 93 = .ok (.if_icmp .ne 13, 3) := by decide +kernel
theorem zd_MReader_thing_96 : decode zb_MReader_thing 96 = .ok (.aload_n 0, 1) := by decide +kernel
theorem zd_MReader_thing_97 : decode zb_MReader_thing 97 = .ok (.getfield 13, 3) := by decide +kernel
theorem zd_MReader_thing_100 : decode zb_MReader_thing 100 = .ok (.iload_n 2, 1) := by decide +kernel
theorem zd_MReader_thing_101 : decode zb_MReader_thing 101 = .ok (.iconst 1, 1) := by decide +kernel
theorem zd_MReader_thing_102 : decode zb_MReader_thing 102 = .ok (.iadd, 1) := by decide +kernel
theorem zd_MReader_thing_103 : decode zb_MReader_thing 103 = .ok (.putfield 157, 3) := by decide +kernel
theorem zd_MReader_thing_106 : decode zb_MReader_thing 106 = .ok (.iload_n 1, 1) := by decide +kernel
theorem zd_MReader_thing_107 : decode zb_MReader_thing 107 = .ok (.iconst 2, 1) := by decide +kernel
theorem zd_MReader_thing_108 : decode zb_MReader_thing 108 = .ok (.if_icmp .ne 13, 3) := by decide +kernel
theorem zd_MReader_thing_111 : decode zb_MReader_thing 111 = .ok (.aload_n 0, 1) := by decide +kernel
theorem zd_MReader_thing_112 : decode zb_MReader_thing 112 = .ok (.getfield 13, 3) := by decide +kernel
theorem zd_MReader_thing_115 : decode zb_MReader_thing 115 = .ok (.iload_n 2, 1) := by decide +kernel
theorem zd_MReader_thing_116 : decode zb_MReader_thing 116 = .ok (.iconst 1, 1) := by decide +kernel
theorem zd_MReader_thing_117 : decode zb_MReader_thing 117 = .ok (.iadd, 1) := by decide +kernel
theorem zd_MReader_thing_118 : decode zb_MReader_thing 118 = .ok (.putfield 192, 3) := by decide +kernel
theorem zd_MReader_thing_121 : decode zb_MReader_thing 121 = .ok (.iload_n 1, 1) := by decide +kernel
theorem zd_MReader_thing_122 : decode zb_MReader_thing 122 = .ok (.iconst 3, 1) := by decide +kernel
theorem zd_MReader_thing_123 : decode zb_MReader_thing 123 = .ok (.if_icmp .ne 13, 3) := by decide +kernel
theorem zd_MReader_thing_126 : decode zb_MReader_thing 126 = .ok (.aload_n 0, 1) := by decide +kernel
theorem zd_MReader_thing_127 : decode zb_MReader_thing 127 = .ok (.getfield 13, 3) := by decide +kernel
theorem zd_MReader_thing_130 : decode zb_MReader_thing 130 = .ok (.iload_n 2, 1) := by decide +kernel
theorem zd_MReader_thing_131 : decode zb_MReader_thing 131 = .ok (.iconst 1, 1) := by decide +kernel
theorem zd_MReader_thing_132 : decode zb_MReader_thing 132 = .ok (.iadd, 1) := by decide +kernel
theorem zd_MReader_thing_133 : decode zb_MReader_thing 133 = .ok (.putfield 219, 3) := by decide +kernel
theorem zd_MReader_thing_136 : decode zb_MReader_thing 136 = .ok (.iload_n 1, 1) := by decide +kernel
theorem zd_MReader_thing_137 : decode zb_MReader_thing 137 = .ok (.iconst 4, 1) := by decide +kernel
theorem zd_MReader_thing_138 : decode zb_MReader_thing 138 = .ok (.if_icmp .ne 13, 3) := by decide +kernel
theorem zd_MReader_thing_141 : decode zb_MReader_thing 141 = .ok (.aload_n 0, 1) := by decide +kernel
theorem zd_MReader_thing_142 : decode zb_MReader_thing 142 = .ok (.getfield 13, 3) := by decide +kernel
theorem zd_MReader_thing_145 : decode zb_MReader_thing 145 = .ok (.iload_n 2, 1) := by decide +kernel
theorem zd_MReader_thing_146 : decode zb_MReader_thing 146 = .ok (.iconst 1, 1) := by decide +kernel
theorem zd_MReader_thing_147 : decode zb_MReader_thing 147 = .ok (.iadd, 1) := by decide +kernel
theorem zd_MReader_thing_148 : decode zb_MReader_thing 148 = .ok (.putfield 254, 3) := by decide +kernel
theorem zd_MReader_thing_151 : decode zb_MReader_thing 151 = .ok (.return_, 1) := by decide +kernel
theorem zw_1887 : (Jvm.Cond.methodLink "OrreryBoxModel$Reader" (251 : Nat) ({ cls := "OrreryBoxModel$Reader", name := "track", desc := "(I)V" } : Jvm.MethodName)) ∈ gw := gw_t 1887 (by decide +kernel) rfl
theorem zw_1889 : (Jvm.Cond.instanceMethod ({ cls := "OrreryBoxModel$Reader", name := "track", desc := "(I)V" } : Jvm.MethodName)) ∈ gw := gw_t 1889 (by decide +kernel) rfl
theorem zv_87 : (Jvm.Cond.selects "OrreryBoxModel$Reader" (⟨"OrreryBoxModel$Reader", "track", "(I)V"⟩ : MethodName) ⟨"OrreryBoxModel$Reader", "track", "(I)V"⟩) ∈ gw := gw_s 87 (by decide +kernel) rfl
theorem zs_MReader_251 : zwV "OrreryBoxModel$Reader" 251 "OrreryBoxModel$Reader" zy_MReader_track zb_MReader_track 4 none := ⟨zw_1887, zw_1889, zv_87, zw_15, zc_MReader_track⟩
theorem zw_1330 : (Jvm.Cond.fieldLink "OrreryBoxModel$Reader" (254 : Nat) "OrreryBoxModel$Scene" "tracks" "I") ∈ gw := gw_t 1330 (by decide +kernel) rfl
theorem zf_I_15_4 (b : Nat) (m : zMem) (k : Nat) (v : Int32) : (zfl b 15 m k).set 4 (.int v) = zfl b 15 (mI m k 4 v) k := by simp [zfl, mI, upd, vp_updL]
theorem zw_1874 : (Jvm.Cond.methodLink "OrreryBoxModel$Reader" (249 : Nat) ({ cls := "OrreryBoxModel$Reader", name := "node", desc := "(I)V" } : Jvm.MethodName)) ∈ gw := gw_t 1874 (by decide +kernel) rfl
theorem zw_1876 : (Jvm.Cond.instanceMethod ({ cls := "OrreryBoxModel$Reader", name := "node", desc := "(I)V" } : Jvm.MethodName)) ∈ gw := gw_t 1876 (by decide +kernel) rfl
theorem zv_85 : (Jvm.Cond.selects "OrreryBoxModel$Reader" (⟨"OrreryBoxModel$Reader", "node", "(I)V"⟩ : MethodName) ⟨"OrreryBoxModel$Reader", "node", "(I)V"⟩) ∈ gw := gw_s 85 (by decide +kernel) rfl
theorem zs_MReader_249 : zwV "OrreryBoxModel$Reader" 249 "OrreryBoxModel$Reader" zy_MReader_node zb_MReader_node 3 none := ⟨zw_1874, zw_1876, zv_85, zw_15, zc_MReader_node⟩
theorem zf_I_15_3 (b : Nat) (m : zMem) (k : Nat) (v : Int32) : (zfl b 15 m k).set 3 (.int v) = zfl b 15 (mI m k 3 v) k := by simp [zfl, mI, upd, vp_updL]
theorem zw_1865 : (Jvm.Cond.methodLink "OrreryBoxModel$Reader" (247 : Nat) ({ cls := "OrreryBoxModel$Reader", name := "mesh", desc := "(I)V" } : Jvm.MethodName)) ∈ gw := gw_t 1865 (by decide +kernel) rfl
theorem zw_1867 : (Jvm.Cond.instanceMethod ({ cls := "OrreryBoxModel$Reader", name := "mesh", desc := "(I)V" } : Jvm.MethodName)) ∈ gw := gw_t 1867 (by decide +kernel) rfl
theorem zv_84 : (Jvm.Cond.selects "OrreryBoxModel$Reader" (⟨"OrreryBoxModel$Reader", "mesh", "(I)V"⟩ : MethodName) ⟨"OrreryBoxModel$Reader", "mesh", "(I)V"⟩) ∈ gw := gw_s 84 (by decide +kernel) rfl
theorem zs_MReader_247 : zwV "OrreryBoxModel$Reader" 247 "OrreryBoxModel$Reader" zy_MReader_mesh zb_MReader_mesh 4 none := ⟨zw_1865, zw_1867, zv_84, zw_15, zc_MReader_mesh⟩
theorem zf_I_15_2 (b : Nat) (m : zMem) (k : Nat) (v : Int32) : (zfl b 15 m k).set 2 (.int v) = zfl b 15 (mI m k 2 v) k := by simp [zfl, mI, upd, vp_updL]
theorem zw_1858 : (Jvm.Cond.methodLink "OrreryBoxModel$Reader" (245 : Nat) ({ cls := "OrreryBoxModel$Reader", name := "material", desc := "(I)V" } : Jvm.MethodName)) ∈ gw := gw_t 1858 (by decide +kernel) rfl
theorem zw_1860 : (Jvm.Cond.instanceMethod ({ cls := "OrreryBoxModel$Reader", name := "material", desc := "(I)V" } : Jvm.MethodName)) ∈ gw := gw_t 1860 (by decide +kernel) rfl
theorem zv_83 : (Jvm.Cond.selects "OrreryBoxModel$Reader" (⟨"OrreryBoxModel$Reader", "material", "(I)V"⟩ : MethodName) ⟨"OrreryBoxModel$Reader", "material", "(I)V"⟩) ∈ gw := gw_s 83 (by decide +kernel) rfl
theorem zs_MReader_245 : zwV "OrreryBoxModel$Reader" 245 "OrreryBoxModel$Reader" zy_MReader_material zb_MReader_material 2 none := ⟨zw_1858, zw_1860, zv_83, zw_15, zc_MReader_material⟩
theorem zf_I_15_1 (b : Nat) (m : zMem) (k : Nat) (v : Int32) : (zfl b 15 m k).set 1 (.int v) = zfl b 15 (mI m k 1 v) k := by simp [zfl, mI, upd, vp_updL]
theorem zw_1813 : (Jvm.Cond.methodLink "OrreryBoxModel$Reader" (243 : Nat) ({ cls := "OrreryBoxModel$Reader", name := "texture", desc := "(I)V" } : Jvm.MethodName)) ∈ gw := gw_t 1813 (by decide +kernel) rfl
theorem zw_1815 : (Jvm.Cond.instanceMethod ({ cls := "OrreryBoxModel$Reader", name := "texture", desc := "(I)V" } : Jvm.MethodName)) ∈ gw := gw_t 1815 (by decide +kernel) rfl
theorem zv_77 : (Jvm.Cond.selects "OrreryBoxModel$Reader" (⟨"OrreryBoxModel$Reader", "texture", "(I)V"⟩ : MethodName) ⟨"OrreryBoxModel$Reader", "texture", "(I)V"⟩) ∈ gw := gw_s 77 (by decide +kernel) rfl
theorem zs_MReader_243 : zwV "OrreryBoxModel$Reader" 243 "OrreryBoxModel$Reader" zy_MReader_texture zb_MReader_texture 4 none := ⟨zw_1813, zw_1815, zv_77, zw_15, zc_MReader_texture⟩
theorem zf_I_15_0 (b : Nat) (m : zMem) (k : Nat) (v : Int32) : (zfl b 15 m k).set 0 (.int v) = zfl b 15 (mI m k 0 v) k := by simp [zfl, mI, upd, vp_updL]
def F_MReader_thing (sh : zSh) (mm : zMem) (o : Nat) (x0_ : Int32) (x1_ : Int32) : Option zMem := zoS (sh o) 14 (fun le2 => Option.bind (F_MReader_sign sh mm o 123) (fun p3 => zoS (sh o) 14 (fun le5 => (if (p3.1 o 4) = 0 then (if x0_ = 0 then zoS (sh o) 14 (fun le83 => Option.bind (F_MReader_texture sh p3 o x1_) (fun p84 => zoS (sh o) 14 (fun le86 => Option.bind (F_MReader_sign sh p84 o 125) (fun p87 => zoS (sh o) 14 (fun le89 => (if (p87.1 o 4) = 0 then zoS (sh o) 14 (fun le92 => Option.bind (p87.2.2 o 1) (fun a93 => zoL (x1_ + 1) (fun x94 => zoS (sh a93) 15 (fun le96 => zoL (mI p87 a93 0 x94) (fun mm97 => some mm97))))) else some p87)))))) else (if x0_ = 1 then zoS (sh o) 14 (fun le67 => Option.bind (F_MReader_material sh p3 o x1_) (fun p68 => zoS (sh o) 14 (fun le70 => Option.bind (F_MReader_sign sh p68 o 125) (fun p71 => zoS (sh o) 14 (fun le73 => (if (p71.1 o 4) = 0 then zoS (sh o) 14 (fun le76 => Option.bind (p71.2.2 o 1) (fun a77 => zoL (x1_ + 1) (fun x78 => zoS (sh a77) 15 (fun le80 => zoL (mI p71 a77 1 x78) (fun mm81 => some mm81))))) else some p71)))))) else (if x0_ = 2 then zoS (sh o) 14 (fun le51 => Option.bind (F_MReader_mesh sh p3 o x1_) (fun p52 => zoS (sh o) 14 (fun le54 => Option.bind (F_MReader_sign sh p52 o 125) (fun p55 => zoS (sh o) 14 (fun le57 => (if (p55.1 o 4) = 0 then zoS (sh o) 14 (fun le60 => Option.bind (p55.2.2 o 1) (fun a61 => zoL (x1_ + 1) (fun x62 => zoS (sh a61) 15 (fun le64 => zoL (mI p55 a61 2 x62) (fun mm65 => some mm65))))) else some p55)))))) else (if x0_ = 3 then zoS (sh o) 14 (fun le35 => Option.bind (F_MReader_node sh p3 o x1_) (fun p36 => zoS (sh o) 14 (fun le38 => Option.bind (F_MReader_sign sh p36 o 125) (fun p39 => zoS (sh o) 14 (fun le41 => (if (p39.1 o 4) = 0 then zoS (sh o) 14 (fun le44 => Option.bind (p39.2.2 o 1) (fun a45 => zoL (x1_ + 1) (fun x46 => zoS (sh a45) 15 (fun le48 => zoL (mI p39 a45 3 x46) (fun mm49 => some mm49))))) else some p39)))))) else (if x0_ = 4 then zoS (sh o) 14 (fun le19 => Option.bind (F_MReader_track sh p3 o x1_) (fun p20 => zoS (sh o) 14 (fun le22 => Option.bind (F_MReader_sign sh p20 o 125) (fun p23 => zoS (sh o) 14 (fun le25 => (if (p23.1 o 4) = 0 then zoS (sh o) 14 (fun le28 => Option.bind (p23.2.2 o 1) (fun a29 => zoL (x1_ + 1) (fun x30 => zoS (sh a29) 15 (fun le32 => zoL (mI p23 a29 4 x30) (fun mm33 => some mm33))))) else some p23)))))) else zoS (sh o) 14 (fun le13 => Option.bind (F_MReader_sign sh p3 o 125) (fun p14 => zoS (sh o) 14 (fun le16 => (if (p14.1 o 4) = 0 then some p14 else some p14))))))))) else some p3))))
set_option maxHeartbeats 4000000 in
set_option maxRecDepth 100000 in
theorem k_MReader_thing (l : Launch) (D : va_G) (tA : Nat → ClassId) (b : Nat) (sh : zSh) (n : Nat) {mm : zMem} {o : Nat} {x0_ : Int32} {x1_ : Int32} {r : zMem} (h : F_MReader_thing sh mm o x0_ x1_ = some r) : zM l D tA b zy_MReader_thing zb_MReader_thing 3 none 9 203 0 0 [.ref (b + o), .int x0_, .int x1_] (zW tA b sh mm) n (zE none (zW tA b sh r) n) := by
  unfold F_MReader_thing at h
  refine zM_of (own := "OrreryBoxModel$Reader") (plainFor_of_name (by decide)) rfl (Nat.le_of_ble_eq_true rfl) (fun p e s m below meth c F hr hin hH => ?_)
  refine zr_aload_n F zd_MReader_thing_0 rfl ?_
  refine zr_bipushv (v := 123) F zd_MReader_thing_1 (by decide) ?_
  obtain ⟨le2, hs1, h⟩ := zoS_s h
  obtain ⟨p3, ep3, h⟩ := zoB_s h
  refine zr_callV0 F (k_MReader_sign l D tA b sh _ ep3) zd_MReader_thing_3 (zW_o hs1 (by decide)) rfl zs_MReader_55 rfl zq_MReader_sign rfl rfl ⟨(Nat.le_of_ble_eq_true rfl), (Nat.le_of_ble_eq_true rfl)⟩ (Nat.le_of_ble_eq_true rfl) ⟨(Nat.le_of_ble_eq_true rfl), (Nat.le_of_ble_eq_true rfl)⟩ ?_
  refine zr_aload_n F zd_MReader_thing_6 rfl ?_
  obtain ⟨le5, hs4, h⟩ := zoS_s h
  refine zr_get F 14 4 zd_MReader_thing_7 (zW_o hs4 (by decide)) rfl (by decide) zw_1508 rfl (by rfl) ?_
  refine zr_if_eq F 14 zd_MReader_thing_10 (by decide) (fun hb6 => ?_) (fun hb6 => ?_)
  ·
    rw [if_pos hb6] at h
    refine zr_iload_n F zd_MReader_thing_14 rfl ?_
    refine zr_pcn 15 rfl ?_
    refine zr_if_ne F 23 zd_MReader_thing_15 (by decide) (fun hb7 => ?_) (fun hb7 => ?_)
    ·
      rw [if_neg hb7] at h
      refine zr_iload_n F zd_MReader_thing_23 rfl ?_
      refine zr_iconstv (v := 1) F zd_MReader_thing_24 (by decide) ?_
      refine zr_icmp_ne F 33 zd_MReader_thing_25 (by decide) (fun hb8 => ?_) (fun hb8 => ?_)
      ·
        rw [if_neg hb8] at h
        refine zr_iload_n F zd_MReader_thing_33 rfl ?_
        refine zr_iconstv (v := 2) F zd_MReader_thing_34 (by decide) ?_
        refine zr_icmp_ne F 43 zd_MReader_thing_35 (by decide) (fun hb9 => ?_) (fun hb9 => ?_)
        ·
          rw [if_neg hb9] at h
          refine zr_iload_n F zd_MReader_thing_43 rfl ?_
          refine zr_pcn 44 rfl ?_
          refine zr_iconstv (v := 3) F zd_MReader_thing_44 (by decide) ?_
          refine zr_icmp_ne F 53 zd_MReader_thing_45 (by decide) (fun hb10 => ?_) (fun hb10 => ?_)
          ·
            rw [if_neg hb10] at h
            refine zr_iload_n F zd_MReader_thing_53 rfl ?_
            refine zr_iconstv (v := 4) F zd_MReader_thing_54 (by decide) ?_
            refine zr_icmp_ne F 63 zd_MReader_thing_55 (by decide) (fun hb11 => ?_) (fun hb11 => ?_)
            ·
              rw [if_neg hb11] at h
              refine zr_aload_n F zd_MReader_thing_63 rfl ?_
              refine zr_bipushv (v := 125) F zd_MReader_thing_64 (by decide) ?_
              obtain ⟨le13, hs12, h⟩ := zoS_s h
              obtain ⟨p14, ep14, h⟩ := zoB_s h
              refine zr_callV0 F (k_MReader_sign l D tA b sh _ ep14) zd_MReader_thing_66 (zW_o hs12 (by decide)) rfl zs_MReader_55 rfl zq_MReader_sign rfl rfl ⟨(Nat.le_of_ble_eq_true rfl), (Nat.le_of_ble_eq_true rfl)⟩ (Nat.le_of_ble_eq_true rfl) ⟨(Nat.le_of_ble_eq_true rfl), (Nat.le_of_ble_eq_true rfl)⟩ ?_
              refine zr_pcn 69 rfl ?_
              refine zr_aload_n F zd_MReader_thing_69 rfl ?_
              obtain ⟨le16, hs15, h⟩ := zoS_s h
              refine zr_get F 14 4 zd_MReader_thing_70 (zW_o hs15 (by decide)) rfl (by decide) zw_1508 rfl (by rfl) ?_
              refine zr_if_eq F 77 zd_MReader_thing_73 (by decide) (fun hb17 => ?_) (fun hb17 => ?_)
              ·
                rw [if_pos hb17] at h
                refine zr_iload_n F zd_MReader_thing_77 rfl ?_
                refine zr_if_ne F 91 zd_MReader_thing_78 (by decide) (fun _ => ?_) (fun hq => absurd hq hb7)
                refine zr_iload_n F zd_MReader_thing_91 rfl ?_
                refine zr_iconstv (v := 1) F zd_MReader_thing_92 (by decide) ?_
                refine zr_icmp_ne F 106 zd_MReader_thing_93 (by decide) (fun _ => ?_) (fun hq => absurd hq hb8)
                refine zr_pcn 106 rfl ?_
                refine zr_iload_n F zd_MReader_thing_106 rfl ?_
                refine zr_iconstv (v := 2) F zd_MReader_thing_107 (by decide) ?_
                refine zr_icmp_ne F 121 zd_MReader_thing_108 (by decide) (fun _ => ?_) (fun hq => absurd hq hb9)
                refine zr_iload_n F zd_MReader_thing_121 rfl ?_
                refine zr_iconstv (v := 3) F zd_MReader_thing_122 (by decide) ?_
                refine zr_icmp_ne F 136 zd_MReader_thing_123 (by decide) (fun _ => ?_) (fun hq => absurd hq hb10)
                refine zr_iload_n F zd_MReader_thing_136 rfl ?_
                refine zr_iconstv (v := 4) F zd_MReader_thing_137 (by decide) ?_
                refine zr_pcn 138 rfl ?_
                refine zr_icmp_ne F 151 zd_MReader_thing_138 (by decide) (fun _ => ?_) (fun hq => absurd hq hb11)
                obtain rfl := Option.some.inj h
                exact zr_vret F hr zd_MReader_thing_151 (Nat.le_of_ble_eq_true rfl) (Nat.le_of_ble_eq_true rfl) ⟨rfl, rfl, rfl⟩
              ·
                rw [if_neg hb17] at h
                obtain rfl := Option.some.inj h
                exact zr_vret F hr zd_MReader_thing_76 (Nat.le_of_ble_eq_true rfl) (Nat.le_of_ble_eq_true rfl) ⟨rfl, rfl, rfl⟩
            ·
              rw [if_pos hb11] at h
              refine zr_aload_n F zd_MReader_thing_58 rfl ?_
              refine zr_iload_n F zd_MReader_thing_59 rfl ?_
              obtain ⟨le19, hs18, h⟩ := zoS_s h
              obtain ⟨p20, ep20, h⟩ := zoB_s h
              refine zr_callV0 F (k_MReader_track l D tA b sh _ ep20) zd_MReader_thing_60 (zW_o hs18 (by decide)) rfl zs_MReader_251 rfl zq_MReader_track rfl rfl ⟨(Nat.le_of_ble_eq_true rfl), (Nat.le_of_ble_eq_true rfl)⟩ (Nat.le_of_ble_eq_true rfl) ⟨(Nat.le_of_ble_eq_true rfl), (Nat.le_of_ble_eq_true rfl)⟩ ?_
              refine zr_aload_n F zd_MReader_thing_63 rfl ?_
              refine zr_bipushv (v := 125) F zd_MReader_thing_64 (by decide) ?_
              refine zr_pcn 66 rfl ?_
              obtain ⟨le22, hs21, h⟩ := zoS_s h
              obtain ⟨p23, ep23, h⟩ := zoB_s h
              refine zr_callV0 F (k_MReader_sign l D tA b sh _ ep23) zd_MReader_thing_66 (zW_o hs21 (by decide)) rfl zs_MReader_55 rfl zq_MReader_sign rfl rfl ⟨(Nat.le_of_ble_eq_true rfl), (Nat.le_of_ble_eq_true rfl)⟩ (Nat.le_of_ble_eq_true rfl) ⟨(Nat.le_of_ble_eq_true rfl), (Nat.le_of_ble_eq_true rfl)⟩ ?_
              refine zr_aload_n F zd_MReader_thing_69 rfl ?_
              obtain ⟨le25, hs24, h⟩ := zoS_s h
              refine zr_get F 14 4 zd_MReader_thing_70 (zW_o hs24 (by decide)) rfl (by decide) zw_1508 rfl (by rfl) ?_
              refine zr_if_eq F 77 zd_MReader_thing_73 (by decide) (fun hb26 => ?_) (fun hb26 => ?_)
              ·
                rw [if_pos hb26] at h
                refine zr_iload_n F zd_MReader_thing_77 rfl ?_
                refine zr_if_ne F 91 zd_MReader_thing_78 (by decide) (fun _ => ?_) (fun hq => absurd hq (fun hq => absurd (hb11.symm.trans hq) (by decide)))
                refine zr_iload_n F zd_MReader_thing_91 rfl ?_
                refine zr_iconstv (v := 1) F zd_MReader_thing_92 (by decide) ?_
                refine zr_pcn 93 rfl ?_
                refine zr_icmp_ne F 106 zd_MReader_thing_93 (by decide) (fun _ => ?_) (fun hq => absurd hq (fun hq => absurd (hb11.symm.trans hq) (by decide)))
                refine zr_iload_n F zd_MReader_thing_106 rfl ?_
                refine zr_iconstv (v := 2) F zd_MReader_thing_107 (by decide) ?_
                refine zr_icmp_ne F 121 zd_MReader_thing_108 (by decide) (fun _ => ?_) (fun hq => absurd hq (fun hq => absurd (hb11.symm.trans hq) (by decide)))
                refine zr_iload_n F zd_MReader_thing_121 rfl ?_
                refine zr_iconstv (v := 3) F zd_MReader_thing_122 (by decide) ?_
                refine zr_icmp_ne F 136 zd_MReader_thing_123 (by decide) (fun _ => ?_) (fun hq => absurd hq (fun hq => absurd (hb11.symm.trans hq) (by decide)))
                refine zr_iload_n F zd_MReader_thing_136 rfl ?_
                refine zr_pcn 137 rfl ?_
                refine zr_iconstv (v := 4) F zd_MReader_thing_137 (by decide) ?_
                refine zr_icmp_ne F 151 zd_MReader_thing_138 (by decide) (fun hq => absurd hb11 hq) (fun _ => ?_)
                refine zr_aload_n F zd_MReader_thing_141 rfl ?_
                obtain ⟨le28, hs27, h⟩ := zoS_s h
                obtain ⟨a29, ea29, h⟩ := zoB_s h
                refine zr_get F 14 1 zd_MReader_thing_142 (zW_o hs27 (by decide)) rfl (by decide) zw_1505 rfl (by rfl) ?_
                refine zr_tor ea29 ?_
                refine zr_iload_n F zd_MReader_thing_145 rfl ?_
                refine zr_iconstv (v := 1) F zd_MReader_thing_146 (by decide) ?_
                refine zr_iadd F zd_MReader_thing_147 ?_
                obtain ⟨x30, ex30, h⟩ := zoL_s h
                rw [← ex30]
                obtain ⟨le32, hs31, h⟩ := zoS_s h
                refine zr_put F 15 4 zd_MReader_thing_148 (zW_o hs31 (by decide)) rfl (by decide) zw_1330 rfl rfl rfl rfl (by exact (Nat.le_of_ble_eq_true rfl)) ?_
                obtain ⟨mm33, emm33, h⟩ := zoL_s h
                refine zr_norm (zW tA b sh mm33) _ (by rw [emm33]; exact zW_pI (v := x30) hs31 (by decide) (zf_I_15_4 b _ _ _)) rfl ?_
                refine zr_pcn 151 rfl ?_
                obtain rfl := Option.some.inj h
                exact zr_vret F hr zd_MReader_thing_151 (Nat.le_of_ble_eq_true rfl) (Nat.le_of_ble_eq_true rfl) ⟨rfl, rfl, rfl⟩
              ·
                rw [if_neg hb26] at h
                obtain rfl := Option.some.inj h
                exact zr_vret F hr zd_MReader_thing_76 (Nat.le_of_ble_eq_true rfl) (Nat.le_of_ble_eq_true rfl) ⟨rfl, rfl, rfl⟩
          ·
            rw [if_pos hb10] at h
            refine zr_aload_n F zd_MReader_thing_48 rfl ?_
            refine zr_iload_n F zd_MReader_thing_49 rfl ?_
            obtain ⟨le35, hs34, h⟩ := zoS_s h
            obtain ⟨p36, ep36, h⟩ := zoB_s h
            refine zr_callV0 F (k_MReader_node l D tA b sh _ ep36) zd_MReader_thing_50 (zW_o hs34 (by decide)) rfl zs_MReader_249 rfl zq_MReader_node rfl rfl ⟨(Nat.le_of_ble_eq_true rfl), (Nat.le_of_ble_eq_true rfl)⟩ (Nat.le_of_ble_eq_true rfl) ⟨(Nat.le_of_ble_eq_true rfl), (Nat.le_of_ble_eq_true rfl)⟩ ?_
            refine zr_iload_n F zd_MReader_thing_53 rfl ?_
            refine zr_iconstv (v := 4) F zd_MReader_thing_54 (by decide) ?_
            refine zr_icmp_ne F 63 zd_MReader_thing_55 (by decide) (fun _ => ?_) (fun hq => absurd hq (fun hq => absurd (hb10.symm.trans hq) (by decide)))
            refine zr_pcn 63 rfl ?_
            refine zr_aload_n F zd_MReader_thing_63 rfl ?_
            refine zr_bipushv (v := 125) F zd_MReader_thing_64 (by decide) ?_
            obtain ⟨le38, hs37, h⟩ := zoS_s h
            obtain ⟨p39, ep39, h⟩ := zoB_s h
            refine zr_callV0 F (k_MReader_sign l D tA b sh _ ep39) zd_MReader_thing_66 (zW_o hs37 (by decide)) rfl zs_MReader_55 rfl zq_MReader_sign rfl rfl ⟨(Nat.le_of_ble_eq_true rfl), (Nat.le_of_ble_eq_true rfl)⟩ (Nat.le_of_ble_eq_true rfl) ⟨(Nat.le_of_ble_eq_true rfl), (Nat.le_of_ble_eq_true rfl)⟩ ?_
            refine zr_aload_n F zd_MReader_thing_69 rfl ?_
            obtain ⟨le41, hs40, h⟩ := zoS_s h
            refine zr_get F 14 4 zd_MReader_thing_70 (zW_o hs40 (by decide)) rfl (by decide) zw_1508 rfl (by rfl) ?_
            refine zr_if_eq F 77 zd_MReader_thing_73 (by decide) (fun hb42 => ?_) (fun hb42 => ?_)
            ·
              rw [if_pos hb42] at h
              refine zr_iload_n F zd_MReader_thing_77 rfl ?_
              refine zr_if_ne F 91 zd_MReader_thing_78 (by decide) (fun _ => ?_) (fun hq => absurd hq (fun hq => absurd (hb10.symm.trans hq) (by decide)))
              refine zr_pcn 91 rfl ?_
              refine zr_iload_n F zd_MReader_thing_91 rfl ?_
              refine zr_iconstv (v := 1) F zd_MReader_thing_92 (by decide) ?_
              refine zr_icmp_ne F 106 zd_MReader_thing_93 (by decide) (fun _ => ?_) (fun hq => absurd hq (fun hq => absurd (hb10.symm.trans hq) (by decide)))
              refine zr_iload_n F zd_MReader_thing_106 rfl ?_
              refine zr_iconstv (v := 2) F zd_MReader_thing_107 (by decide) ?_
              refine zr_icmp_ne F 121 zd_MReader_thing_108 (by decide) (fun _ => ?_) (fun hq => absurd hq (fun hq => absurd (hb10.symm.trans hq) (by decide)))
              refine zr_iload_n F zd_MReader_thing_121 rfl ?_
              refine zr_iconstv (v := 3) F zd_MReader_thing_122 (by decide) ?_
              refine zr_pcn 123 rfl ?_
              refine zr_icmp_ne F 136 zd_MReader_thing_123 (by decide) (fun hq => absurd hb10 hq) (fun _ => ?_)
              refine zr_aload_n F zd_MReader_thing_126 rfl ?_
              obtain ⟨le44, hs43, h⟩ := zoS_s h
              obtain ⟨a45, ea45, h⟩ := zoB_s h
              refine zr_get F 14 1 zd_MReader_thing_127 (zW_o hs43 (by decide)) rfl (by decide) zw_1505 rfl (by rfl) ?_
              refine zr_tor ea45 ?_
              refine zr_iload_n F zd_MReader_thing_130 rfl ?_
              refine zr_iconstv (v := 1) F zd_MReader_thing_131 (by decide) ?_
              refine zr_iadd F zd_MReader_thing_132 ?_
              obtain ⟨x46, ex46, h⟩ := zoL_s h
              rw [← ex46]
              obtain ⟨le48, hs47, h⟩ := zoS_s h
              refine zr_put F 15 3 zd_MReader_thing_133 (zW_o hs47 (by decide)) rfl (by decide) zw_1326 rfl rfl rfl rfl (by exact (Nat.le_of_ble_eq_true rfl)) ?_
              obtain ⟨mm49, emm49, h⟩ := zoL_s h
              refine zr_norm (zW tA b sh mm49) _ (by rw [emm49]; exact zW_pI (v := x46) hs47 (by decide) (zf_I_15_3 b _ _ _)) rfl ?_
              refine zr_iload_n F zd_MReader_thing_136 rfl ?_
              refine zr_pcn 137 rfl ?_
              refine zr_iconstv (v := 4) F zd_MReader_thing_137 (by decide) ?_
              refine zr_icmp_ne F 151 zd_MReader_thing_138 (by decide) (fun _ => ?_) (fun hq => absurd hq (fun hq => absurd (hb10.symm.trans hq) (by decide)))
              obtain rfl := Option.some.inj h
              exact zr_vret F hr zd_MReader_thing_151 (Nat.le_of_ble_eq_true rfl) (Nat.le_of_ble_eq_true rfl) ⟨rfl, rfl, rfl⟩
            ·
              rw [if_neg hb42] at h
              obtain rfl := Option.some.inj h
              exact zr_vret F hr zd_MReader_thing_76 (Nat.le_of_ble_eq_true rfl) (Nat.le_of_ble_eq_true rfl) ⟨rfl, rfl, rfl⟩
        ·
          rw [if_pos hb9] at h
          refine zr_aload_n F zd_MReader_thing_38 rfl ?_
          refine zr_iload_n F zd_MReader_thing_39 rfl ?_
          obtain ⟨le51, hs50, h⟩ := zoS_s h
          obtain ⟨p52, ep52, h⟩ := zoB_s h
          refine zr_callV0 F (k_MReader_mesh l D tA b sh _ ep52) zd_MReader_thing_40 (zW_o hs50 (by decide)) rfl zs_MReader_247 rfl zq_MReader_mesh rfl rfl ⟨(Nat.le_of_ble_eq_true rfl), (Nat.le_of_ble_eq_true rfl)⟩ (Nat.le_of_ble_eq_true rfl) ⟨(Nat.le_of_ble_eq_true rfl), (Nat.le_of_ble_eq_true rfl)⟩ ?_
          refine zr_iload_n F zd_MReader_thing_43 rfl ?_
          refine zr_pcn 44 rfl ?_
          refine zr_iconstv (v := 3) F zd_MReader_thing_44 (by decide) ?_
          refine zr_icmp_ne F 53 zd_MReader_thing_45 (by decide) (fun _ => ?_) (fun hq => absurd hq (fun hq => absurd (hb9.symm.trans hq) (by decide)))
          refine zr_iload_n F zd_MReader_thing_53 rfl ?_
          refine zr_iconstv (v := 4) F zd_MReader_thing_54 (by decide) ?_
          refine zr_icmp_ne F 63 zd_MReader_thing_55 (by decide) (fun _ => ?_) (fun hq => absurd hq (fun hq => absurd (hb9.symm.trans hq) (by decide)))
          refine zr_aload_n F zd_MReader_thing_63 rfl ?_
          refine zr_bipushv (v := 125) F zd_MReader_thing_64 (by decide) ?_
          obtain ⟨le54, hs53, h⟩ := zoS_s h
          obtain ⟨p55, ep55, h⟩ := zoB_s h
          refine zr_callV0 F (k_MReader_sign l D tA b sh _ ep55) zd_MReader_thing_66 (zW_o hs53 (by decide)) rfl zs_MReader_55 rfl zq_MReader_sign rfl rfl ⟨(Nat.le_of_ble_eq_true rfl), (Nat.le_of_ble_eq_true rfl)⟩ (Nat.le_of_ble_eq_true rfl) ⟨(Nat.le_of_ble_eq_true rfl), (Nat.le_of_ble_eq_true rfl)⟩ ?_
          refine zr_pcn 69 rfl ?_
          refine zr_aload_n F zd_MReader_thing_69 rfl ?_
          obtain ⟨le57, hs56, h⟩ := zoS_s h
          refine zr_get F 14 4 zd_MReader_thing_70 (zW_o hs56 (by decide)) rfl (by decide) zw_1508 rfl (by rfl) ?_
          refine zr_if_eq F 77 zd_MReader_thing_73 (by decide) (fun hb58 => ?_) (fun hb58 => ?_)
          ·
            rw [if_pos hb58] at h
            refine zr_iload_n F zd_MReader_thing_77 rfl ?_
            refine zr_if_ne F 91 zd_MReader_thing_78 (by decide) (fun _ => ?_) (fun hq => absurd hq (fun hq => absurd (hb9.symm.trans hq) (by decide)))
            refine zr_iload_n F zd_MReader_thing_91 rfl ?_
            refine zr_iconstv (v := 1) F zd_MReader_thing_92 (by decide) ?_
            refine zr_icmp_ne F 106 zd_MReader_thing_93 (by decide) (fun _ => ?_) (fun hq => absurd hq (fun hq => absurd (hb9.symm.trans hq) (by decide)))
            refine zr_pcn 106 rfl ?_
            refine zr_iload_n F zd_MReader_thing_106 rfl ?_
            refine zr_iconstv (v := 2) F zd_MReader_thing_107 (by decide) ?_
            refine zr_icmp_ne F 121 zd_MReader_thing_108 (by decide) (fun hq => absurd hb9 hq) (fun _ => ?_)
            refine zr_aload_n F zd_MReader_thing_111 rfl ?_
            obtain ⟨le60, hs59, h⟩ := zoS_s h
            obtain ⟨a61, ea61, h⟩ := zoB_s h
            refine zr_get F 14 1 zd_MReader_thing_112 (zW_o hs59 (by decide)) rfl (by decide) zw_1505 rfl (by rfl) ?_
            refine zr_tor ea61 ?_
            refine zr_iload_n F zd_MReader_thing_115 rfl ?_
            refine zr_iconstv (v := 1) F zd_MReader_thing_116 (by decide) ?_
            refine zr_iadd F zd_MReader_thing_117 ?_
            refine zr_pcn 118 rfl ?_
            obtain ⟨x62, ex62, h⟩ := zoL_s h
            rw [← ex62]
            obtain ⟨le64, hs63, h⟩ := zoS_s h
            refine zr_put F 15 2 zd_MReader_thing_118 (zW_o hs63 (by decide)) rfl (by decide) zw_1323 rfl rfl rfl rfl (by exact (Nat.le_of_ble_eq_true rfl)) ?_
            obtain ⟨mm65, emm65, h⟩ := zoL_s h
            refine zr_norm (zW tA b sh mm65) _ (by rw [emm65]; exact zW_pI (v := x62) hs63 (by decide) (zf_I_15_2 b _ _ _)) rfl ?_
            refine zr_iload_n F zd_MReader_thing_121 rfl ?_
            refine zr_iconstv (v := 3) F zd_MReader_thing_122 (by decide) ?_
            refine zr_icmp_ne F 136 zd_MReader_thing_123 (by decide) (fun _ => ?_) (fun hq => absurd hq (fun hq => absurd (hb9.symm.trans hq) (by decide)))
            refine zr_iload_n F zd_MReader_thing_136 rfl ?_
            refine zr_iconstv (v := 4) F zd_MReader_thing_137 (by decide) ?_
            refine zr_icmp_ne F 151 zd_MReader_thing_138 (by decide) (fun _ => ?_) (fun hq => absurd hq (fun hq => absurd (hb9.symm.trans hq) (by decide)))
            obtain rfl := Option.some.inj h
            exact zr_vret F hr zd_MReader_thing_151 (Nat.le_of_ble_eq_true rfl) (Nat.le_of_ble_eq_true rfl) ⟨rfl, rfl, rfl⟩
          ·
            rw [if_neg hb58] at h
            refine zr_pcn 76 rfl ?_
            obtain rfl := Option.some.inj h
            exact zr_vret F hr zd_MReader_thing_76 (Nat.le_of_ble_eq_true rfl) (Nat.le_of_ble_eq_true rfl) ⟨rfl, rfl, rfl⟩
      ·
        rw [if_pos hb8] at h
        refine zr_aload_n F zd_MReader_thing_28 rfl ?_
        refine zr_iload_n F zd_MReader_thing_29 rfl ?_
        obtain ⟨le67, hs66, h⟩ := zoS_s h
        obtain ⟨p68, ep68, h⟩ := zoB_s h
        refine zr_callV0 F (k_MReader_material l D tA b sh _ ep68) zd_MReader_thing_30 (zW_o hs66 (by decide)) rfl zs_MReader_245 rfl zq_MReader_material rfl rfl ⟨(Nat.le_of_ble_eq_true rfl), (Nat.le_of_ble_eq_true rfl)⟩ (Nat.le_of_ble_eq_true rfl) ⟨(Nat.le_of_ble_eq_true rfl), (Nat.le_of_ble_eq_true rfl)⟩ ?_
        refine zr_iload_n F zd_MReader_thing_33 rfl ?_
        refine zr_iconstv (v := 2) F zd_MReader_thing_34 (by decide) ?_
        refine zr_icmp_ne F 43 zd_MReader_thing_35 (by decide) (fun _ => ?_) (fun hq => absurd hq (fun hq => absurd (hb8.symm.trans hq) (by decide)))
        refine zr_iload_n F zd_MReader_thing_43 rfl ?_
        refine zr_pcn 44 rfl ?_
        refine zr_iconstv (v := 3) F zd_MReader_thing_44 (by decide) ?_
        refine zr_icmp_ne F 53 zd_MReader_thing_45 (by decide) (fun _ => ?_) (fun hq => absurd hq (fun hq => absurd (hb8.symm.trans hq) (by decide)))
        refine zr_iload_n F zd_MReader_thing_53 rfl ?_
        refine zr_iconstv (v := 4) F zd_MReader_thing_54 (by decide) ?_
        refine zr_icmp_ne F 63 zd_MReader_thing_55 (by decide) (fun _ => ?_) (fun hq => absurd hq (fun hq => absurd (hb8.symm.trans hq) (by decide)))
        refine zr_aload_n F zd_MReader_thing_63 rfl ?_
        refine zr_bipushv (v := 125) F zd_MReader_thing_64 (by decide) ?_
        obtain ⟨le70, hs69, h⟩ := zoS_s h
        obtain ⟨p71, ep71, h⟩ := zoB_s h
        refine zr_callV0 F (k_MReader_sign l D tA b sh _ ep71) zd_MReader_thing_66 (zW_o hs69 (by decide)) rfl zs_MReader_55 rfl zq_MReader_sign rfl rfl ⟨(Nat.le_of_ble_eq_true rfl), (Nat.le_of_ble_eq_true rfl)⟩ (Nat.le_of_ble_eq_true rfl) ⟨(Nat.le_of_ble_eq_true rfl), (Nat.le_of_ble_eq_true rfl)⟩ ?_
        refine zr_pcn 69 rfl ?_
        refine zr_aload_n F zd_MReader_thing_69 rfl ?_
        obtain ⟨le73, hs72, h⟩ := zoS_s h
        refine zr_get F 14 4 zd_MReader_thing_70 (zW_o hs72 (by decide)) rfl (by decide) zw_1508 rfl (by rfl) ?_
        refine zr_if_eq F 77 zd_MReader_thing_73 (by decide) (fun hb74 => ?_) (fun hb74 => ?_)
        ·
          rw [if_pos hb74] at h
          refine zr_iload_n F zd_MReader_thing_77 rfl ?_
          refine zr_if_ne F 91 zd_MReader_thing_78 (by decide) (fun _ => ?_) (fun hq => absurd hq (fun hq => absurd (hb8.symm.trans hq) (by decide)))
          refine zr_iload_n F zd_MReader_thing_91 rfl ?_
          refine zr_iconstv (v := 1) F zd_MReader_thing_92 (by decide) ?_
          refine zr_icmp_ne F 106 zd_MReader_thing_93 (by decide) (fun hq => absurd hb8 hq) (fun _ => ?_)
          refine zr_pcn 96 rfl ?_
          refine zr_aload_n F zd_MReader_thing_96 rfl ?_
          obtain ⟨le76, hs75, h⟩ := zoS_s h
          obtain ⟨a77, ea77, h⟩ := zoB_s h
          refine zr_get F 14 1 zd_MReader_thing_97 (zW_o hs75 (by decide)) rfl (by decide) zw_1505 rfl (by rfl) ?_
          refine zr_tor ea77 ?_
          refine zr_iload_n F zd_MReader_thing_100 rfl ?_
          refine zr_iconstv (v := 1) F zd_MReader_thing_101 (by decide) ?_
          refine zr_iadd F zd_MReader_thing_102 ?_
          obtain ⟨x78, ex78, h⟩ := zoL_s h
          rw [← ex78]
          obtain ⟨le80, hs79, h⟩ := zoS_s h
          refine zr_put F 15 1 zd_MReader_thing_103 (zW_o hs79 (by decide)) rfl (by decide) zw_1320 rfl rfl rfl rfl (by exact (Nat.le_of_ble_eq_true rfl)) ?_
          obtain ⟨mm81, emm81, h⟩ := zoL_s h
          refine zr_norm (zW tA b sh mm81) _ (by rw [emm81]; exact zW_pI (v := x78) hs79 (by decide) (zf_I_15_1 b _ _ _)) rfl ?_
          refine zr_iload_n F zd_MReader_thing_106 rfl ?_
          refine zr_iconstv (v := 2) F zd_MReader_thing_107 (by decide) ?_
          refine zr_pcn 108 rfl ?_
          refine zr_icmp_ne F 121 zd_MReader_thing_108 (by decide) (fun _ => ?_) (fun hq => absurd hq (fun hq => absurd (hb8.symm.trans hq) (by decide)))
          refine zr_iload_n F zd_MReader_thing_121 rfl ?_
          refine zr_iconstv (v := 3) F zd_MReader_thing_122 (by decide) ?_
          refine zr_icmp_ne F 136 zd_MReader_thing_123 (by decide) (fun _ => ?_) (fun hq => absurd hq (fun hq => absurd (hb8.symm.trans hq) (by decide)))
          refine zr_iload_n F zd_MReader_thing_136 rfl ?_
          refine zr_iconstv (v := 4) F zd_MReader_thing_137 (by decide) ?_
          refine zr_icmp_ne F 151 zd_MReader_thing_138 (by decide) (fun _ => ?_) (fun hq => absurd hq (fun hq => absurd (hb8.symm.trans hq) (by decide)))
          obtain rfl := Option.some.inj h
          exact zr_vret F hr zd_MReader_thing_151 (Nat.le_of_ble_eq_true rfl) (Nat.le_of_ble_eq_true rfl) ⟨rfl, rfl, rfl⟩
        ·
          rw [if_neg hb74] at h
          refine zr_pcn 76 rfl ?_
          obtain rfl := Option.some.inj h
          exact zr_vret F hr zd_MReader_thing_76 (Nat.le_of_ble_eq_true rfl) (Nat.le_of_ble_eq_true rfl) ⟨rfl, rfl, rfl⟩
    ·
      rw [if_pos hb7] at h
      refine zr_aload_n F zd_MReader_thing_18 rfl ?_
      refine zr_iload_n F zd_MReader_thing_19 rfl ?_
      obtain ⟨le83, hs82, h⟩ := zoS_s h
      obtain ⟨p84, ep84, h⟩ := zoB_s h
      refine zr_callV0 F (k_MReader_texture l D tA b sh _ ep84) zd_MReader_thing_20 (zW_o hs82 (by decide)) rfl zs_MReader_243 rfl zq_MReader_texture rfl rfl ⟨(Nat.le_of_ble_eq_true rfl), (Nat.le_of_ble_eq_true rfl)⟩ (Nat.le_of_ble_eq_true rfl) ⟨(Nat.le_of_ble_eq_true rfl), (Nat.le_of_ble_eq_true rfl)⟩ ?_
      refine zr_iload_n F zd_MReader_thing_23 rfl ?_
      refine zr_iconstv (v := 1) F zd_MReader_thing_24 (by decide) ?_
      refine zr_icmp_ne F 33 zd_MReader_thing_25 (by decide) (fun _ => ?_) (fun hq => absurd hq (fun hq => absurd (hb7.symm.trans hq) (by decide)))
      refine zr_iload_n F zd_MReader_thing_33 rfl ?_
      refine zr_pcn 34 rfl ?_
      refine zr_iconstv (v := 2) F zd_MReader_thing_34 (by decide) ?_
      refine zr_icmp_ne F 43 zd_MReader_thing_35 (by decide) (fun _ => ?_) (fun hq => absurd hq (fun hq => absurd (hb7.symm.trans hq) (by decide)))
      refine zr_iload_n F zd_MReader_thing_43 rfl ?_
      refine zr_iconstv (v := 3) F zd_MReader_thing_44 (by decide) ?_
      refine zr_icmp_ne F 53 zd_MReader_thing_45 (by decide) (fun _ => ?_) (fun hq => absurd hq (fun hq => absurd (hb7.symm.trans hq) (by decide)))
      refine zr_iload_n F zd_MReader_thing_53 rfl ?_
      refine zr_iconstv (v := 4) F zd_MReader_thing_54 (by decide) ?_
      refine zr_icmp_ne F 63 zd_MReader_thing_55 (by decide) (fun _ => ?_) (fun hq => absurd hq (fun hq => absurd (hb7.symm.trans hq) (by decide)))
      refine zr_pcn 63 rfl ?_
      refine zr_aload_n F zd_MReader_thing_63 rfl ?_
      refine zr_bipushv (v := 125) F zd_MReader_thing_64 (by decide) ?_
      obtain ⟨le86, hs85, h⟩ := zoS_s h
      obtain ⟨p87, ep87, h⟩ := zoB_s h
      refine zr_callV0 F (k_MReader_sign l D tA b sh _ ep87) zd_MReader_thing_66 (zW_o hs85 (by decide)) rfl zs_MReader_55 rfl zq_MReader_sign rfl rfl ⟨(Nat.le_of_ble_eq_true rfl), (Nat.le_of_ble_eq_true rfl)⟩ (Nat.le_of_ble_eq_true rfl) ⟨(Nat.le_of_ble_eq_true rfl), (Nat.le_of_ble_eq_true rfl)⟩ ?_
      refine zr_aload_n F zd_MReader_thing_69 rfl ?_
      obtain ⟨le89, hs88, h⟩ := zoS_s h
      refine zr_get F 14 4 zd_MReader_thing_70 (zW_o hs88 (by decide)) rfl (by decide) zw_1508 rfl (by rfl) ?_
      refine zr_if_eq F 77 zd_MReader_thing_73 (by decide) (fun hb90 => ?_) (fun hb90 => ?_)
      ·
        rw [if_pos hb90] at h
        refine zr_iload_n F zd_MReader_thing_77 rfl ?_
        refine zr_if_ne F 91 zd_MReader_thing_78 (by decide) (fun hq => absurd hb7 hq) (fun _ => ?_)
        refine zr_pcn 81 rfl ?_
        refine zr_aload_n F zd_MReader_thing_81 rfl ?_
        obtain ⟨le92, hs91, h⟩ := zoS_s h
        obtain ⟨a93, ea93, h⟩ := zoB_s h
        refine zr_get F 14 1 zd_MReader_thing_82 (zW_o hs91 (by decide)) rfl (by decide) zw_1505 rfl (by rfl) ?_
        refine zr_tor ea93 ?_
        refine zr_iload_n F zd_MReader_thing_85 rfl ?_
        refine zr_iconstv (v := 1) F zd_MReader_thing_86 (by decide) ?_
        refine zr_iadd F zd_MReader_thing_87 ?_
        obtain ⟨x94, ex94, h⟩ := zoL_s h
        rw [← ex94]
        obtain ⟨le96, hs95, h⟩ := zoS_s h
        refine zr_put F 15 0 zd_MReader_thing_88 (zW_o hs95 (by decide)) rfl (by decide) zw_1317 rfl rfl rfl rfl (by exact (Nat.le_of_ble_eq_true rfl)) ?_
        obtain ⟨mm97, emm97, h⟩ := zoL_s h
        refine zr_norm (zW tA b sh mm97) _ (by rw [emm97]; exact zW_pI (v := x94) hs95 (by decide) (zf_I_15_0 b _ _ _)) rfl ?_
        refine zr_iload_n F zd_MReader_thing_91 rfl ?_
        refine zr_iconstv (v := 1) F zd_MReader_thing_92 (by decide) ?_
        refine zr_pcn 93 rfl ?_
        refine zr_icmp_ne F 106 zd_MReader_thing_93 (by decide) (fun _ => ?_) (fun hq => absurd hq (fun hq => absurd (hb7.symm.trans hq) (by decide)))
        refine zr_iload_n F zd_MReader_thing_106 rfl ?_
        refine zr_iconstv (v := 2) F zd_MReader_thing_107 (by decide) ?_
        refine zr_icmp_ne F 121 zd_MReader_thing_108 (by decide) (fun _ => ?_) (fun hq => absurd hq (fun hq => absurd (hb7.symm.trans hq) (by decide)))
        refine zr_iload_n F zd_MReader_thing_121 rfl ?_
        refine zr_iconstv (v := 3) F zd_MReader_thing_122 (by decide) ?_
        refine zr_icmp_ne F 136 zd_MReader_thing_123 (by decide) (fun _ => ?_) (fun hq => absurd hq (fun hq => absurd (hb7.symm.trans hq) (by decide)))
        refine zr_iload_n F zd_MReader_thing_136 rfl ?_
        refine zr_pcn 137 rfl ?_
        refine zr_iconstv (v := 4) F zd_MReader_thing_137 (by decide) ?_
        refine zr_icmp_ne F 151 zd_MReader_thing_138 (by decide) (fun _ => ?_) (fun hq => absurd hq (fun hq => absurd (hb7.symm.trans hq) (by decide)))
        obtain rfl := Option.some.inj h
        exact zr_vret F hr zd_MReader_thing_151 (Nat.le_of_ble_eq_true rfl) (Nat.le_of_ble_eq_true rfl) ⟨rfl, rfl, rfl⟩
      ·
        rw [if_neg hb90] at h
        obtain rfl := Option.some.inj h
        exact zr_vret F hr zd_MReader_thing_76 (Nat.le_of_ble_eq_true rfl) (Nat.le_of_ble_eq_true rfl) ⟨rfl, rfl, rfl⟩
  ·
    rw [if_neg hb6] at h
    obtain rfl := Option.some.inj h
    exact zr_vret F hr zd_MReader_thing_13 (Nat.le_of_ble_eq_true rfl) (Nat.le_of_ble_eq_true rfl) ⟨rfl, rfl, rfl⟩
abbrev zb_MReader_things : ByteArray := prog_17_method_21_code
def zy_MReader_things : MethodName := ⟨"OrreryBoxModel$Reader", "things", "(II)V"⟩
theorem zc_MReader_things : Cond.code zy_MReader_things zb_MReader_things 5 none ∈ gw := gw_t 1808 (by decide +kernel) rfl
theorem zq_MReader_things : zy_MReader_things.cls ≠ "java/lang/invoke/MethodHandle" ∧ zy_MReader_things.cls ≠ "java/lang/invoke/VarHandle" ∧ (parseMethodDescriptor zy_MReader_things.desc).map (fun d => d.parameters.length) = some 2 := by decide +kernel
theorem zd_MReader_things_0 : decode zb_MReader_things 0 = .ok (.aload_n 0, 1) := by decide +kernel
theorem zd_MReader_things_1 : decode zb_MReader_things 1 = .ok (.bipush 91, 2) := by decide +kernel
theorem zd_MReader_things_3 : decode zb_MReader_things 3 = .ok (.invokevirtual 55, 3) := by decide +kernel
theorem zd_MReader_things_6 : decode zb_MReader_things 6 = .ok (.iconst 0, 1) := by decide +kernel
theorem zd_MReader_things_7 : decode zb_MReader_things 7 = .ok (.istore_n 3, 1) := by decide +kernel
theorem zd_MReader_things_8 : decode zb_MReader_things 8 = .ok (.aload_n 0, 1) := by decide +kernel
theorem zd_MReader_things_9 : decode zb_MReader_things 9 = .ok (.getfield 17, 3) := by decide +kernel
theorem zd_MReader_things_12 : decode zb_MReader_things 12 = .ok (.ifCond .ne 16, 3) := by decide +kernel
theorem zd_MReader_things_15 : decode zb_MReader_things 15 = .ok (.aload_n 0, 1) := by decide +kernel
theorem zd_MReader_things_16 : decode zb_MReader_things 16 = .ok (.invokevirtual 34, 3) := by decide +kernel
theorem zd_MReader_things_19 : decode zb_MReader_things 19 = .ok (.bipush 93, 2) := by decide +kernel
theorem zd_MReader_things_21 : decode zb_MReader_things 21 = .ok (.if_icmp .eq 7, 3) := by decide +kernel
theorem zd_MReader_things_24 : decode zb_MReader_things 24 = .ok (.iconst 1, 1) := by decide +kernel
theorem zd_MReader_things_25 : decode zb_MReader_things 25 = .ok (.goto 4, 3) := by decide +kernel
theorem zd_MReader_things_28 : decode zb_MReader_things 28 = .ok (.iconst 0, 1) := by decide +kernel
theorem zd_MReader_things_29 : decode zb_MReader_things 29 = .ok (.istore 4, 2) := by decide +kernel
theorem zd_MReader_things_31 : decode zb_MReader_things 31 = .ok (.iload 4, 2) := by decide +kernel
theorem zd_MReader_things_33 : decode zb_MReader_things 33 = .ok (.ifCond .eq 86, 3) := by decide +kernel
theorem zd_MReader_things_36 : decode zb_MReader_things 36 = .ok (.aload_n 0, 1) := by decide +kernel
theorem zd_MReader_things_37 : decode zb_MReader_things 37 = .ok (.getfield 17, 3) := by decide +kernel
theorem zd_MReader_things_40 : decode zb_MReader_things 40 = .ok (.ifCond .ne 79, 3) := by decide +kernel
theorem zd_MReader_things_43 : decode zb_MReader_things 43 = .ok (.aload_n 0, 1) := by decide +kernel
theorem zd_MReader_things_44 : decode zb_MReader_things 44 = .ok (.invokevirtual 34, 3) := by decide +kernel
theorem zd_MReader_things_47 : decode zb_MReader_things 47 = .ok (.bipush 123, 2) := by decide +kernel
theorem zd_MReader_things_49 : decode zb_MReader_things 49 = .ok (.if_icmp .ne 20, 3) := by decide +kernel
theorem zd_MReader_things_52 : decode zb_MReader_things 52 = .ok (.iload_n 3, 1) := by decide +kernel
theorem zd_MReader_things_53 : decode zb_MReader_things 53 = .ok (.iload_n 2, 1) := by decide +kernel
theorem zd_MReader_things_54 : decode zb_MReader_things 54 = .ok (.if_icmp .ne 15, 3) := by decide +kernel
theorem zd_MReader_things_57 : decode zb_MReader_things 57 = .ok (.aload_n 0, 1) := by decide +kernel
theorem zd_MReader_things_58 : decode zb_MReader_things 58 = .ok (.iconst 3, 1) := by decide +kernel
theorem zd_MReader_things_59 : decode zb_MReader_things 59 = .ok (.aload_n 0, 1) := by decide +kernel
theorem zd_MReader_things_60 : decode zb_MReader_things 60 = .ok (.getfield 27, 3) := by decide +kernel
theorem zd_MReader_things_63 : decode zb_MReader_things 63 = .ok (.invokevirtual 38, 3) := by decide +kernel
theorem zd_MReader_things_66 : decode zb_MReader_things 66 = .ok (.goto 9, 3) := by decide +kernel
theorem zd_MReader_things_69 : decode zb_MReader_things 69 = .ok (.aload_n 0, 1) := by decide +kernel
theorem zd_MReader_things_70 : decode zb_MReader_things 70 = .ok (.iload_n 1, 1) := by decide +kernel
theorem zd_MReader_things_71 : decode zb_MReader_things 71 = .ok (.iload_n 3, 1) := by decide +kernel
theorem zd_MReader_things_72 : decode zb_MReader_things 72 = .ok (.invokevirtual 257, 3) := by decide +kernel
theorem zd_MReader_things_75 : decode zb_MReader_things 75 = .ok (.iinc 3 1, 3) := by decide +kernel
theorem zd_MReader_things_78 : decode zb_MReader_things 78 = .ok (.aload_n 0, 1) := by decide +kernel
theorem zd_MReader_things_79 : decode zb_MReader_things 79 = .ok (.getfield 17, 3) := by decide +kernel
theorem zd_MReader_things_82 : decode zb_MReader_things 82 = .ok (.ifCond .ne 16, 3) := by decide +kernel
theorem zd_MReader_things_85 : decode zb_MReader_things 85 = .ok (.aload_n 0, 1) := by decide +kernel
theorem zd_MReader_things_86 : decode zb_MReader_things 86 = .ok (.invokevirtual 34, 3) := by decide +kernel
theorem zd_MReader_things_89 : decode zb_MReader_things 89 = .ok (.bipush 44, 2) := by decide +kernel
theorem zd_MReader_things_91 : decode zb_MReader_things 91 = .ok (.if_icmp .ne 7, 3) := by decide +kernel
theorem zd_MReader_things_94 : decode zb_MReader_things 94 = .ok (.iconst 1, 1) := by decide +kernel
theorem zd_MReader_things_95 : decode zb_MReader_things 95 = .ok (.goto 4, 3) := by decide +kernel
theorem zd_MReader_things_98 : decode zb_MReader_things 98 = .ok (.iconst 0, 1) := by decide +kernel
theorem zd_MReader_things_99 : decode zb_MReader_things 99 = .ok (.istore 4, 2) := by decide +kernel
theorem zd_MReader_things_101 : decode zb_MReader_things 101 = .ok (.iload 4, 2) := by decide +kernel
theorem zd_MReader_things_103 : decode zb_MReader_things 103 = .ok (.ifCond .eq (-72), 3) := by decide +kernel
theorem zd_MReader_things_106 : decode zb_MReader_things 106 = .ok (.aload_n 0, 1) := by decide +kernel
theorem zd_MReader_things_107 : decode zb_MReader_things 107 = .ok (.dup, 1) := by decide +kernel
theorem zd_MReader_things_108 : decode zb_MReader_things 108 = .ok (.getfield 27, 3) := by decide +kernel
theorem zd_MReader_things_111 : decode zb_MReader_things 111 = .ok (.iconst 1, 1) := by decide +kernel
theorem zd_MReader_things_112 : decode zb_MReader_things 112 = .ok (.iadd, 1) := by decide +kernel
theorem zd_MReader_things_113 : decode zb_MReader_things 113 = .ok (.putfield 27, 3) := by decide +kernel
theorem zd_MReader_things_116 : decode zb_MReader_things 116 = .ok (.goto (-85), 3) := by decide +kernel
theorem zd_MReader_things_119 : decode zb_MReader_things 119 = .ok (.aload_n 0, 1) := by decide +kernel
theorem zd_MReader_things_120 : decode zb_MReader_things 120 = .ok (.bipush 93, 2) := by decide +kernel
theorem zd_MReader_things_122 : decode zb_MReader_things 122 = .ok (.invokevirtual 55, 3) := by decide +kernel
theorem zd_MReader_things_125 : decode zb_MReader_things 125 = .ok (.return_, 1) := by decide +kernel
theorem zw_1809 : (Jvm.Cond.methodLink "OrreryBoxModel$Reader" (257 : Nat) ({ cls := "OrreryBoxModel$Reader", name := "thing", desc := "(II)V" } : Jvm.MethodName)) ∈ gw := gw_t 1809 (by decide +kernel) rfl
theorem zw_1811 : (Jvm.Cond.instanceMethod ({ cls := "OrreryBoxModel$Reader", name := "thing", desc := "(II)V" } : Jvm.MethodName)) ∈ gw := gw_t 1811 (by decide +kernel) rfl
theorem zv_76 : (Jvm.Cond.selects "OrreryBoxModel$Reader" (⟨"OrreryBoxModel$Reader", "thing", "(II)V"⟩ : MethodName) ⟨"OrreryBoxModel$Reader", "thing", "(II)V"⟩) ∈ gw := gw_s 76 (by decide +kernel) rfl
theorem zs_MReader_257 : zwV "OrreryBoxModel$Reader" 257 "OrreryBoxModel$Reader" zy_MReader_thing zb_MReader_thing 3 none := ⟨zw_1809, zw_1811, zv_76, zw_15, zc_MReader_thing⟩
def L_MReader_things_31 (sh : zSh) (fuel : Nat) (v0 : Nat) (v1 : Int32) (v2 : Int32) (v3 : Int32) (v4 : Int32) (mm : zMem) : Option (Nat × Int32 × Int32 × Int32 × Int32 × zMem) := match fuel with
  | 0 => none
  | fu + 1 => (if v4 = 0 then some (v0, v1, v2, v3, v4, mm) else zoS (sh v0) 14 (fun le9 => (if (mm.1 v0 4) = 0 then zoS (sh v0) 14 (fun le12 => Option.bind (F_MReader_next sh mm v0) (fun p13 => (if p13.1 = 123 then (if v3 = v2 then zoS (sh v0) 14 (fun le49 => zoS (sh v0) 14 (fun le51 => Option.bind (F_MReader_fail sh (p13.2) v0 3 ((p13.2).1 v0 3)) (fun p52 => zoS (sh v0) 14 (fun le54 => (if (p52.1 v0 4) = 0 then zoS (sh v0) 14 (fun le57 => Option.bind (F_MReader_next sh p52 v0) (fun p58 => (if p58.1 = 44 then zoS (sh v0) 14 (fun le61 => zoL (((p58.2).1 v0 3) + 1) (fun x62 => zoS (sh v0) 14 (fun le64 => zoL (mI (p58.2) v0 3 x62) (fun mm65 => L_MReader_things_31 sh fu v0 v1 v2 (v3 + 1) 1 mm65)))) else L_MReader_things_31 sh fu v0 v1 v2 (v3 + 1) 0 (p58.2)))) else L_MReader_things_31 sh fu v0 v1 v2 (v3 + 1) 0 p52))))) else zoS (sh v0) 14 (fun le33 => Option.bind (F_MReader_thing sh (p13.2) v0 v1 v3) (fun p34 => zoS (sh v0) 14 (fun le36 => (if (p34.1 v0 4) = 0 then zoS (sh v0) 14 (fun le39 => Option.bind (F_MReader_next sh p34 v0) (fun p40 => (if p40.1 = 44 then zoS (sh v0) 14 (fun le43 => zoL (((p40.2).1 v0 3) + 1) (fun x44 => zoS (sh v0) 14 (fun le46 => zoL (mI (p40.2) v0 3 x44) (fun mm47 => L_MReader_things_31 sh fu v0 v1 v2 (v3 + 1) 1 mm47)))) else L_MReader_things_31 sh fu v0 v1 v2 (v3 + 1) 0 (p40.2)))) else L_MReader_things_31 sh fu v0 v1 v2 (v3 + 1) 0 p34))))) else zoS (sh v0) 14 (fun le16 => Option.bind (F_MReader_thing sh (p13.2) v0 v1 v3) (fun p17 => zoS (sh v0) 14 (fun le19 => (if (p17.1 v0 4) = 0 then zoS (sh v0) 14 (fun le22 => Option.bind (F_MReader_next sh p17 v0) (fun p23 => (if p23.1 = 44 then zoS (sh v0) 14 (fun le26 => zoL (((p23.2).1 v0 3) + 1) (fun x27 => zoS (sh v0) 14 (fun le29 => zoL (mI (p23.2) v0 3 x27) (fun mm30 => L_MReader_things_31 sh fu v0 v1 v2 (v3 + 1) 1 mm30)))) else L_MReader_things_31 sh fu v0 v1 v2 (v3 + 1) 0 (p23.2)))) else L_MReader_things_31 sh fu v0 v1 v2 (v3 + 1) 0 p17))))))) else some (v0, v1, v2, v3, v4, mm))))
set_option maxHeartbeats 4000000 in
set_option maxRecDepth 100000 in
theorem lp_MReader_things_31 {p : Program} {l : Launch} {e : Env} {s : State} {m : MethodId} {args : Array Value} {below : List Frame} {meth : Method} {c : Code} {D : va_G} {tA : Nat → ClassId} {b n : Nat} {post : Option Value → zV → Nat → Prop} {sh : zSh} (F : zF p s m args meth c zb_MReader_things 5 "OrreryBoxModel$Reader" D tA b) : ∀ (fuel : Nat) (v0 : Nat) (v1 : Int32) (v2 : Int32) (v3 : Int32) (v4 : Int32) (mm : zMem) (r : Nat × Int32 × Int32 × Int32 × Int32 × zMem), L_MReader_things_31 sh fuel v0 v1 v2 v3 v4 mm = some r → (Z p l e { frames := 10, cells := 0, slots := 0, locals := 225 } s m args below meth c D b 5 (MQ below (zQ D b post) args s 0 0 (fun q => b ≤ q)) (zW tA b sh r.2.2.2.2.2) n 0 0 119 [(0, .ref (b + (r.1))), (1, .int (r.2.1)), (2, .int (r.2.2.1)), (3, .int (r.2.2.2.1)), (4, .int (r.2.2.2.2.1))] []) → Z p l e { frames := 10, cells := 0, slots := 0, locals := 225 } s m args below meth c D b 5 (MQ below (zQ D b post) args s 0 0 (fun q => b ≤ q)) (zW tA b sh mm) n 0 0 31 [(0, .ref (b + v0)), (1, .int v1), (2, .int v2), (3, .int v3), (4, .int v4)] [] := by
  intro fuel
  induction fuel with
  | zero =>
    intro v0 v1 v2 v3 v4 mm r h
    cases h
  | succ fu ih =>
    intro v0 v1 v2 v3 v4 mm r h hx0
    rw [L_MReader_things_31] at h
    refine zr_iload F zd_MReader_things_31 rfl ?_
    refine zr_if_eq F 119 zd_MReader_things_33 (by decide) (fun hb7 => ?_) (fun hb7 => ?_)
    ·
      rw [if_pos hb7] at h
      obtain rfl := Option.some.inj h
      refine zr_loc (L' := [(0, .ref (b + v0)), (1, .int v1), (2, .int v2), (3, .int v3), (4, .int v4)]) ⟨rfl, rfl, rfl, rfl, rfl, trivial⟩ ?_
      exact hx0 
    ·
      rw [if_neg hb7] at h
      refine zr_aload_n F zd_MReader_things_36 rfl ?_
      obtain ⟨le9, hs8, h⟩ := zoS_s h
      refine zr_get F 14 4 zd_MReader_things_37 (zW_o hs8 (by decide)) rfl (by decide) zw_1508 rfl (by rfl) ?_
      refine zr_if_ne F 119 zd_MReader_things_40 (by decide) (fun hb10 => ?_) (fun hb10 => ?_)
      ·
        rw [if_neg hb10] at h
        obtain rfl := Option.some.inj h
        refine zr_loc (L' := [(0, .ref (b + v0)), (1, .int v1), (2, .int v2), (3, .int v3), (4, .int v4)]) ⟨rfl, rfl, rfl, rfl, rfl, trivial⟩ ?_
        exact hx0 
      ·
        rw [if_pos hb10] at h
        refine zr_pcn 43 rfl ?_
        refine zr_aload_n F zd_MReader_things_43 rfl ?_
        obtain ⟨le12, hs11, h⟩ := zoS_s h
        obtain ⟨p13, ep13, h⟩ := zoB_s h
        refine zr_callV1 F (k_MReader_next l D tA b sh _ ep13) zd_MReader_things_44 (zW_o hs11 (by decide)) rfl zs_MReader_34 rfl zq_MReader_next rfl rfl ⟨(Nat.le_of_ble_eq_true rfl), (Nat.le_of_ble_eq_true rfl)⟩ (Nat.le_of_ble_eq_true rfl) ⟨(Nat.le_of_ble_eq_true rfl), (Nat.le_of_ble_eq_true rfl)⟩ ?_
        refine zr_bipushv (v := 123) F zd_MReader_things_47 (by decide) ?_
        refine zr_icmp_ne F 69 zd_MReader_things_49 (by decide) (fun hb14 => ?_) (fun hb14 => ?_)
        ·
          rw [if_neg hb14] at h
          refine zr_aload_n F zd_MReader_things_69 rfl ?_
          refine zr_iload_n F zd_MReader_things_70 rfl ?_
          refine zr_iload_n F zd_MReader_things_71 rfl ?_
          obtain ⟨le16, hs15, h⟩ := zoS_s h
          obtain ⟨p17, ep17, h⟩ := zoB_s h
          refine zr_callV0 F (k_MReader_thing l D tA b sh _ ep17) zd_MReader_things_72 (zW_o hs15 (by decide)) rfl zs_MReader_257 rfl zq_MReader_thing rfl rfl ⟨(Nat.le_of_ble_eq_true rfl), (Nat.le_of_ble_eq_true rfl)⟩ (Nat.le_of_ble_eq_true rfl) ⟨(Nat.le_of_ble_eq_true rfl), (Nat.le_of_ble_eq_true rfl)⟩ ?_
          refine zr_pcn 75 rfl ?_
          refine zr_iinc (v := (v3 + 1)) F zd_MReader_things_75 rfl rfl (by decide) ?_
          refine zr_aload_n F zd_MReader_things_78 rfl ?_
          obtain ⟨le19, hs18, h⟩ := zoS_s h
          refine zr_get F 14 4 zd_MReader_things_79 (zW_o hs18 (by decide)) rfl (by decide) zw_1508 rfl (by rfl) ?_
          refine zr_if_ne F 98 zd_MReader_things_82 (by decide) (fun hb20 => ?_) (fun hb20 => ?_)
          ·
            rw [if_neg hb20] at h
            refine zr_iconstv (v := 0) F zd_MReader_things_98 (by decide) ?_
            refine zr_istore F zd_MReader_things_99 (by decide) ?_
            refine zr_iload F zd_MReader_things_101 rfl ?_
            refine zr_if_eq F 31 zd_MReader_things_103 (by decide) (fun _ => ?_) (fun hq => absurd hq (by decide))
            refine zr_loc (L' := [(0, .ref (b + v0)), (1, .int v1), (2, .int v2), (3, .int (v3 + 1)), (4, .int 0)]) ⟨rfl, rfl, rfl, rfl, rfl, trivial⟩ ?_
            exact ih _ _ _ _ _ _ _ h hx0
          ·
            rw [if_pos hb20] at h
            refine zr_pcn 85 rfl ?_
            refine zr_aload_n F zd_MReader_things_85 rfl ?_
            obtain ⟨le22, hs21, h⟩ := zoS_s h
            obtain ⟨p23, ep23, h⟩ := zoB_s h
            refine zr_callV1 F (k_MReader_next l D tA b sh _ ep23) zd_MReader_things_86 (zW_o hs21 (by decide)) rfl zs_MReader_34 rfl zq_MReader_next rfl rfl ⟨(Nat.le_of_ble_eq_true rfl), (Nat.le_of_ble_eq_true rfl)⟩ (Nat.le_of_ble_eq_true rfl) ⟨(Nat.le_of_ble_eq_true rfl), (Nat.le_of_ble_eq_true rfl)⟩ ?_
            refine zr_bipushv (v := 44) F zd_MReader_things_89 (by decide) ?_
            refine zr_icmp_ne F 98 zd_MReader_things_91 (by decide) (fun hb24 => ?_) (fun hb24 => ?_)
            ·
              rw [if_neg hb24] at h
              refine zr_iconstv (v := 0) F zd_MReader_things_98 (by decide) ?_
              refine zr_istore F zd_MReader_things_99 (by decide) ?_
              refine zr_iload F zd_MReader_things_101 rfl ?_
              refine zr_if_eq F 31 zd_MReader_things_103 (by decide) (fun _ => ?_) (fun hq => absurd hq (by decide))
              refine zr_loc (L' := [(0, .ref (b + v0)), (1, .int v1), (2, .int v2), (3, .int (v3 + 1)), (4, .int 0)]) ⟨rfl, rfl, rfl, rfl, rfl, trivial⟩ ?_
              exact ih _ _ _ _ _ _ _ h hx0
            ·
              rw [if_pos hb24] at h
              refine zr_pcn 94 rfl ?_
              refine zr_iconstv (v := 1) F zd_MReader_things_94 (by decide) ?_
              refine zr_goto F 99 zd_MReader_things_95 (by decide) ?_
              refine zr_istore F zd_MReader_things_99 (by decide) ?_
              refine zr_iload F zd_MReader_things_101 rfl ?_
              refine zr_if_eq F 31 zd_MReader_things_103 (by decide) (fun hq => absurd hq (by decide)) (fun _ => ?_)
              refine zr_aload_n F zd_MReader_things_106 rfl ?_
              refine zr_dup F zd_MReader_things_107 rfl ?_
              obtain ⟨le26, hs25, h⟩ := zoS_s h
              refine zr_get F 14 3 zd_MReader_things_108 (zW_o hs25 (by decide)) rfl (by decide) zw_1507 rfl (by rfl) ?_
              refine zr_pcn 111 rfl ?_
              refine zr_iconstv (v := 1) F zd_MReader_things_111 (by decide) ?_
              refine zr_iadd F zd_MReader_things_112 ?_
              obtain ⟨x27, ex27, h⟩ := zoL_s h
              rw [← ex27]
              obtain ⟨le29, hs28, h⟩ := zoS_s h
              refine zr_put F 14 3 zd_MReader_things_113 (zW_o hs28 (by decide)) rfl (by decide) zw_1507 rfl rfl rfl rfl (by exact (Nat.le_of_ble_eq_true rfl)) ?_
              obtain ⟨mm30, emm30, h⟩ := zoL_s h
              refine zr_norm (zW tA b sh mm30) _ (by rw [emm30]; exact zW_pI (v := x27) hs28 (by decide) (zf_I_14_3 b _ _ _)) rfl ?_
              refine zr_goto F 31 zd_MReader_things_116 (by decide) ?_
              refine zr_loc (L' := [(0, .ref (b + v0)), (1, .int v1), (2, .int v2), (3, .int (v3 + 1)), (4, .int 1)]) ⟨rfl, rfl, rfl, rfl, rfl, trivial⟩ ?_
              exact ih _ _ _ _ _ _ _ h hx0
        ·
          rw [if_pos hb14] at h
          refine zr_iload_n F zd_MReader_things_52 rfl ?_
          refine zr_iload_n F zd_MReader_things_53 rfl ?_
          refine zr_icmp_ne F 69 zd_MReader_things_54 (by decide) (fun hb31 => ?_) (fun hb31 => ?_)
          ·
            rw [if_neg hb31] at h
            refine zr_aload_n F zd_MReader_things_69 rfl ?_
            refine zr_pcn 70 rfl ?_
            refine zr_iload_n F zd_MReader_things_70 rfl ?_
            refine zr_iload_n F zd_MReader_things_71 rfl ?_
            obtain ⟨le33, hs32, h⟩ := zoS_s h
            obtain ⟨p34, ep34, h⟩ := zoB_s h
            refine zr_callV0 F (k_MReader_thing l D tA b sh _ ep34) zd_MReader_things_72 (zW_o hs32 (by decide)) rfl zs_MReader_257 rfl zq_MReader_thing rfl rfl ⟨(Nat.le_of_ble_eq_true rfl), (Nat.le_of_ble_eq_true rfl)⟩ (Nat.le_of_ble_eq_true rfl) ⟨(Nat.le_of_ble_eq_true rfl), (Nat.le_of_ble_eq_true rfl)⟩ ?_
            refine zr_iinc (v := (v3 + 1)) F zd_MReader_things_75 rfl rfl (by decide) ?_
            refine zr_aload_n F zd_MReader_things_78 rfl ?_
            obtain ⟨le36, hs35, h⟩ := zoS_s h
            refine zr_get F 14 4 zd_MReader_things_79 (zW_o hs35 (by decide)) rfl (by decide) zw_1508 rfl (by rfl) ?_
            refine zr_if_ne F 98 zd_MReader_things_82 (by decide) (fun hb37 => ?_) (fun hb37 => ?_)
            ·
              rw [if_neg hb37] at h
              refine zr_iconstv (v := 0) F zd_MReader_things_98 (by decide) ?_
              refine zr_pcn 99 rfl ?_
              refine zr_istore F zd_MReader_things_99 (by decide) ?_
              refine zr_iload F zd_MReader_things_101 rfl ?_
              refine zr_if_eq F 31 zd_MReader_things_103 (by decide) (fun _ => ?_) (fun hq => absurd hq (by decide))
              refine zr_loc (L' := [(0, .ref (b + v0)), (1, .int v1), (2, .int v2), (3, .int (v3 + 1)), (4, .int 0)]) ⟨rfl, rfl, rfl, rfl, rfl, trivial⟩ ?_
              exact ih _ _ _ _ _ _ _ h hx0
            ·
              rw [if_pos hb37] at h
              refine zr_aload_n F zd_MReader_things_85 rfl ?_
              obtain ⟨le39, hs38, h⟩ := zoS_s h
              obtain ⟨p40, ep40, h⟩ := zoB_s h
              refine zr_callV1 F (k_MReader_next l D tA b sh _ ep40) zd_MReader_things_86 (zW_o hs38 (by decide)) rfl zs_MReader_34 rfl zq_MReader_next rfl rfl ⟨(Nat.le_of_ble_eq_true rfl), (Nat.le_of_ble_eq_true rfl)⟩ (Nat.le_of_ble_eq_true rfl) ⟨(Nat.le_of_ble_eq_true rfl), (Nat.le_of_ble_eq_true rfl)⟩ ?_
              refine zr_bipushv (v := 44) F zd_MReader_things_89 (by decide) ?_
              refine zr_icmp_ne F 98 zd_MReader_things_91 (by decide) (fun hb41 => ?_) (fun hb41 => ?_)
              ·
                rw [if_neg hb41] at h
                refine zr_iconstv (v := 0) F zd_MReader_things_98 (by decide) ?_
                refine zr_pcn 99 rfl ?_
                refine zr_istore F zd_MReader_things_99 (by decide) ?_
                refine zr_iload F zd_MReader_things_101 rfl ?_
                refine zr_if_eq F 31 zd_MReader_things_103 (by decide) (fun _ => ?_) (fun hq => absurd hq (by decide))
                refine zr_loc (L' := [(0, .ref (b + v0)), (1, .int v1), (2, .int v2), (3, .int (v3 + 1)), (4, .int 0)]) ⟨rfl, rfl, rfl, rfl, rfl, trivial⟩ ?_
                exact ih _ _ _ _ _ _ _ h hx0
              ·
                rw [if_pos hb41] at h
                refine zr_iconstv (v := 1) F zd_MReader_things_94 (by decide) ?_
                refine zr_goto F 99 zd_MReader_things_95 (by decide) ?_
                refine zr_istore F zd_MReader_things_99 (by decide) ?_
                refine zr_iload F zd_MReader_things_101 rfl ?_
                refine zr_if_eq F 31 zd_MReader_things_103 (by decide) (fun hq => absurd hq (by decide)) (fun _ => ?_)
                refine zr_pcn 106 rfl ?_
                refine zr_aload_n F zd_MReader_things_106 rfl ?_
                refine zr_dup F zd_MReader_things_107 rfl ?_
                obtain ⟨le43, hs42, h⟩ := zoS_s h
                refine zr_get F 14 3 zd_MReader_things_108 (zW_o hs42 (by decide)) rfl (by decide) zw_1507 rfl (by rfl) ?_
                refine zr_iconstv (v := 1) F zd_MReader_things_111 (by decide) ?_
                refine zr_iadd F zd_MReader_things_112 ?_
                obtain ⟨x44, ex44, h⟩ := zoL_s h
                rw [← ex44]
                obtain ⟨le46, hs45, h⟩ := zoS_s h
                refine zr_put F 14 3 zd_MReader_things_113 (zW_o hs45 (by decide)) rfl (by decide) zw_1507 rfl rfl rfl rfl (by exact (Nat.le_of_ble_eq_true rfl)) ?_
                obtain ⟨mm47, emm47, h⟩ := zoL_s h
                refine zr_norm (zW tA b sh mm47) _ (by rw [emm47]; exact zW_pI (v := x44) hs45 (by decide) (zf_I_14_3 b _ _ _)) rfl ?_
                refine zr_goto F 31 zd_MReader_things_116 (by decide) ?_
                refine zr_loc (L' := [(0, .ref (b + v0)), (1, .int v1), (2, .int v2), (3, .int (v3 + 1)), (4, .int 1)]) ⟨rfl, rfl, rfl, rfl, rfl, trivial⟩ ?_
                exact ih _ _ _ _ _ _ _ h hx0
          ·
            rw [if_pos hb31] at h
            refine zr_aload_n F zd_MReader_things_57 rfl ?_
            refine zr_pcn 58 rfl ?_
            refine zr_iconstv (v := 3) F zd_MReader_things_58 (by decide) ?_
            refine zr_aload_n F zd_MReader_things_59 rfl ?_
            obtain ⟨le49, hs48, h⟩ := zoS_s h
            refine zr_get F 14 3 zd_MReader_things_60 (zW_o hs48 (by decide)) rfl (by decide) zw_1507 rfl (by rfl) ?_
            obtain ⟨le51, hs50, h⟩ := zoS_s h
            obtain ⟨p52, ep52, h⟩ := zoB_s h
            refine zr_callV0 F (k_MReader_fail l D tA b sh _ ep52) zd_MReader_things_63 (zW_o hs50 (by decide)) rfl zs_MReader_38 rfl zq_MReader_fail rfl rfl ⟨(Nat.le_of_ble_eq_true rfl), (Nat.le_of_ble_eq_true rfl)⟩ (Nat.le_of_ble_eq_true rfl) ⟨(Nat.le_of_ble_eq_true rfl), (Nat.le_of_ble_eq_true rfl)⟩ ?_
            refine zr_goto F 75 zd_MReader_things_66 (by decide) ?_
            refine zr_iinc (v := (v3 + 1)) F zd_MReader_things_75 rfl rfl (by decide) ?_
            refine zr_aload_n F zd_MReader_things_78 rfl ?_
            obtain ⟨le54, hs53, h⟩ := zoS_s h
            refine zr_get F 14 4 zd_MReader_things_79 (zW_o hs53 (by decide)) rfl (by decide) zw_1508 rfl (by rfl) ?_
            refine zr_pcn 82 rfl ?_
            refine zr_if_ne F 98 zd_MReader_things_82 (by decide) (fun hb55 => ?_) (fun hb55 => ?_)
            ·
              rw [if_neg hb55] at h
              refine zr_iconstv (v := 0) F zd_MReader_things_98 (by decide) ?_
              refine zr_istore F zd_MReader_things_99 (by decide) ?_
              refine zr_iload F zd_MReader_things_101 rfl ?_
              refine zr_if_eq F 31 zd_MReader_things_103 (by decide) (fun _ => ?_) (fun hq => absurd hq (by decide))
              refine zr_loc (L' := [(0, .ref (b + v0)), (1, .int v1), (2, .int v2), (3, .int (v3 + 1)), (4, .int 0)]) ⟨rfl, rfl, rfl, rfl, rfl, trivial⟩ ?_
              exact ih _ _ _ _ _ _ _ h hx0
            ·
              rw [if_pos hb55] at h
              refine zr_aload_n F zd_MReader_things_85 rfl ?_
              obtain ⟨le57, hs56, h⟩ := zoS_s h
              obtain ⟨p58, ep58, h⟩ := zoB_s h
              refine zr_callV1 F (k_MReader_next l D tA b sh _ ep58) zd_MReader_things_86 (zW_o hs56 (by decide)) rfl zs_MReader_34 rfl zq_MReader_next rfl rfl ⟨(Nat.le_of_ble_eq_true rfl), (Nat.le_of_ble_eq_true rfl)⟩ (Nat.le_of_ble_eq_true rfl) ⟨(Nat.le_of_ble_eq_true rfl), (Nat.le_of_ble_eq_true rfl)⟩ ?_
              refine zr_bipushv (v := 44) F zd_MReader_things_89 (by decide) ?_
              refine zr_pcn 91 rfl ?_
              refine zr_icmp_ne F 98 zd_MReader_things_91 (by decide) (fun hb59 => ?_) (fun hb59 => ?_)
              ·
                rw [if_neg hb59] at h
                refine zr_iconstv (v := 0) F zd_MReader_things_98 (by decide) ?_
                refine zr_istore F zd_MReader_things_99 (by decide) ?_
                refine zr_iload F zd_MReader_things_101 rfl ?_
                refine zr_if_eq F 31 zd_MReader_things_103 (by decide) (fun _ => ?_) (fun hq => absurd hq (by decide))
                refine zr_loc (L' := [(0, .ref (b + v0)), (1, .int v1), (2, .int v2), (3, .int (v3 + 1)), (4, .int 0)]) ⟨rfl, rfl, rfl, rfl, rfl, trivial⟩ ?_
                exact ih _ _ _ _ _ _ _ h hx0
              ·
                rw [if_pos hb59] at h
                refine zr_iconstv (v := 1) F zd_MReader_things_94 (by decide) ?_
                refine zr_goto F 99 zd_MReader_things_95 (by decide) ?_
                refine zr_istore F zd_MReader_things_99 (by decide) ?_
                refine zr_pcn 101 rfl ?_
                refine zr_iload F zd_MReader_things_101 rfl ?_
                refine zr_if_eq F 31 zd_MReader_things_103 (by decide) (fun hq => absurd hq (by decide)) (fun _ => ?_)
                refine zr_aload_n F zd_MReader_things_106 rfl ?_
                refine zr_dup F zd_MReader_things_107 rfl ?_
                obtain ⟨le61, hs60, h⟩ := zoS_s h
                refine zr_get F 14 3 zd_MReader_things_108 (zW_o hs60 (by decide)) rfl (by decide) zw_1507 rfl (by rfl) ?_
                refine zr_iconstv (v := 1) F zd_MReader_things_111 (by decide) ?_
                refine zr_iadd F zd_MReader_things_112 ?_
                obtain ⟨x62, ex62, h⟩ := zoL_s h
                rw [← ex62]
                obtain ⟨le64, hs63, h⟩ := zoS_s h
                refine zr_put F 14 3 zd_MReader_things_113 (zW_o hs63 (by decide)) rfl (by decide) zw_1507 rfl rfl rfl rfl (by exact (Nat.le_of_ble_eq_true rfl)) ?_
                obtain ⟨mm65, emm65, h⟩ := zoL_s h
                refine zr_norm (zW tA b sh mm65) _ (by rw [emm65]; exact zW_pI (v := x62) hs63 (by decide) (zf_I_14_3 b _ _ _)) rfl ?_
                refine zr_pcn 116 rfl ?_
                refine zr_goto F 31 zd_MReader_things_116 (by decide) ?_
                refine zr_loc (L' := [(0, .ref (b + v0)), (1, .int v1), (2, .int v2), (3, .int (v3 + 1)), (4, .int 1)]) ⟨rfl, rfl, rfl, rfl, rfl, trivial⟩ ?_
                exact ih _ _ _ _ _ _ _ h hx0
def F_MReader_things (sh : zSh) (mm : zMem) (o : Nat) (x0_ : Int32) (x1_ : Int32) : Option zMem := zoS (sh o) 14 (fun le2 => Option.bind (F_MReader_sign sh mm o 91) (fun p3 => zoS (sh o) 14 (fun le5 => (if (p3.1 o 4) = 0 then zoS (sh o) 14 (fun le71 => Option.bind (F_MReader_next sh p3 o) (fun p72 => (if p72.1 = 93 then Option.bind (L_MReader_things_31 sh zfuel o x0_ x1_ 0 0 (p72.2)) (fun q74 => zoS (sh (q74.1)) 14 (fun le76 => Option.bind (F_MReader_sign sh (q74.2.2.2.2.2) (q74.1) 93) (fun p77 => some p77))) else Option.bind (L_MReader_things_31 sh zfuel o x0_ x1_ 0 1 (p72.2)) (fun q78 => zoS (sh (q78.1)) 14 (fun le80 => Option.bind (F_MReader_sign sh (q78.2.2.2.2.2) (q78.1) 93) (fun p81 => some p81)))))) else Option.bind (L_MReader_things_31 sh zfuel o x0_ x1_ 0 0 p3) (fun q66 => zoS (sh (q66.1)) 14 (fun le68 => Option.bind (F_MReader_sign sh (q66.2.2.2.2.2) (q66.1) 93) (fun p69 => some p69)))))))
set_option maxHeartbeats 4000000 in
set_option maxRecDepth 100000 in
theorem k_MReader_things (l : Launch) (D : va_G) (tA : Nat → ClassId) (b : Nat) (sh : zSh) (n : Nat) {mm : zMem} {o : Nat} {x0_ : Int32} {x1_ : Int32} {r : zMem} (h : F_MReader_things sh mm o x0_ x1_ = some r) : zM l D tA b zy_MReader_things zb_MReader_things 5 none 10 225 0 0 [.ref (b + o), .int x0_, .int x1_] (zW tA b sh mm) n (zE none (zW tA b sh r) n) := by
  unfold F_MReader_things at h
  refine zM_of (own := "OrreryBoxModel$Reader") (plainFor_of_name (by decide)) rfl (Nat.le_of_ble_eq_true rfl) (fun p e s m below meth c F hr hin hH => ?_)
  refine zr_aload_n F zd_MReader_things_0 rfl ?_
  refine zr_bipushv (v := 91) F zd_MReader_things_1 (by decide) ?_
  obtain ⟨le2, hs1, h⟩ := zoS_s h
  obtain ⟨p3, ep3, h⟩ := zoB_s h
  refine zr_callV0 F (k_MReader_sign l D tA b sh _ ep3) zd_MReader_things_3 (zW_o hs1 (by decide)) rfl zs_MReader_55 rfl zq_MReader_sign rfl rfl ⟨(Nat.le_of_ble_eq_true rfl), (Nat.le_of_ble_eq_true rfl)⟩ (Nat.le_of_ble_eq_true rfl) ⟨(Nat.le_of_ble_eq_true rfl), (Nat.le_of_ble_eq_true rfl)⟩ ?_
  refine zr_iconstv (v := 0) F zd_MReader_things_6 (by decide) ?_
  refine zr_istore_n F zd_MReader_things_7 (by decide) ?_
  refine zr_aload_n F zd_MReader_things_8 rfl ?_
  obtain ⟨le5, hs4, h⟩ := zoS_s h
  refine zr_get F 14 4 zd_MReader_things_9 (zW_o hs4 (by decide)) rfl (by decide) zw_1508 rfl (by rfl) ?_
  refine zr_pcn 12 rfl ?_
  refine zr_if_ne F 28 zd_MReader_things_12 (by decide) (fun hb6 => ?_) (fun hb6 => ?_)
  ·
    rw [if_neg hb6] at h
    refine zr_iconstv (v := 0) F zd_MReader_things_28 (by decide) ?_
    refine zr_istore F zd_MReader_things_29 (by decide) ?_
    obtain ⟨q66, eq66, h⟩ := zoB_s h
    refine zr_loc (L' := [(0, .ref (b + o)), (1, .int x0_), (2, .int x1_), (3, .int 0), (4, .int 0)]) ⟨rfl, rfl, rfl, rfl, rfl, trivial⟩ ?_
    refine lp_MReader_things_31 F _ _ _ _ _ _ _ _ eq66 ?_
    ·
      refine zr_aload_n F zd_MReader_things_119 rfl ?_
      refine zr_bipushv (v := 93) F zd_MReader_things_120 (by decide) ?_
      obtain ⟨le68, hs67, h⟩ := zoS_s h
      obtain ⟨p69, ep69, h⟩ := zoB_s h
      refine zr_callV0 F (k_MReader_sign l D tA b sh _ ep69) zd_MReader_things_122 (zW_o hs67 (by decide)) rfl zs_MReader_55 rfl zq_MReader_sign rfl rfl ⟨(Nat.le_of_ble_eq_true rfl), (Nat.le_of_ble_eq_true rfl)⟩ (Nat.le_of_ble_eq_true rfl) ⟨(Nat.le_of_ble_eq_true rfl), (Nat.le_of_ble_eq_true rfl)⟩ ?_
      obtain rfl := Option.some.inj h
      exact zr_vret F hr zd_MReader_things_125 (Nat.le_of_ble_eq_true rfl) (Nat.le_of_ble_eq_true rfl) ⟨rfl, rfl, rfl⟩
  ·
    rw [if_pos hb6] at h
    refine zr_aload_n F zd_MReader_things_15 rfl ?_
    obtain ⟨le71, hs70, h⟩ := zoS_s h
    obtain ⟨p72, ep72, h⟩ := zoB_s h
    refine zr_callV1 F (k_MReader_next l D tA b sh _ ep72) zd_MReader_things_16 (zW_o hs70 (by decide)) rfl zs_MReader_34 rfl zq_MReader_next rfl rfl ⟨(Nat.le_of_ble_eq_true rfl), (Nat.le_of_ble_eq_true rfl)⟩ (Nat.le_of_ble_eq_true rfl) ⟨(Nat.le_of_ble_eq_true rfl), (Nat.le_of_ble_eq_true rfl)⟩ ?_
    refine zr_bipushv (v := 93) F zd_MReader_things_19 (by decide) ?_
    refine zr_pcn 21 rfl ?_
    refine zr_icmp_eq F 28 zd_MReader_things_21 (by decide) (fun hb73 => ?_) (fun hb73 => ?_)
    ·
      rw [if_pos hb73] at h
      refine zr_iconstv (v := 0) F zd_MReader_things_28 (by decide) ?_
      refine zr_istore F zd_MReader_things_29 (by decide) ?_
      obtain ⟨q74, eq74, h⟩ := zoB_s h
      refine zr_loc (L' := [(0, .ref (b + o)), (1, .int x0_), (2, .int x1_), (3, .int 0), (4, .int 0)]) ⟨rfl, rfl, rfl, rfl, rfl, trivial⟩ ?_
      refine lp_MReader_things_31 F _ _ _ _ _ _ _ _ eq74 ?_
      ·
        refine zr_aload_n F zd_MReader_things_119 rfl ?_
        refine zr_bipushv (v := 93) F zd_MReader_things_120 (by decide) ?_
        obtain ⟨le76, hs75, h⟩ := zoS_s h
        obtain ⟨p77, ep77, h⟩ := zoB_s h
        refine zr_callV0 F (k_MReader_sign l D tA b sh _ ep77) zd_MReader_things_122 (zW_o hs75 (by decide)) rfl zs_MReader_55 rfl zq_MReader_sign rfl rfl ⟨(Nat.le_of_ble_eq_true rfl), (Nat.le_of_ble_eq_true rfl)⟩ (Nat.le_of_ble_eq_true rfl) ⟨(Nat.le_of_ble_eq_true rfl), (Nat.le_of_ble_eq_true rfl)⟩ ?_
        obtain rfl := Option.some.inj h
        exact zr_vret F hr zd_MReader_things_125 (Nat.le_of_ble_eq_true rfl) (Nat.le_of_ble_eq_true rfl) ⟨rfl, rfl, rfl⟩
    ·
      rw [if_neg hb73] at h
      refine zr_iconstv (v := 1) F zd_MReader_things_24 (by decide) ?_
      refine zr_pcn 25 rfl ?_
      refine zr_goto F 29 zd_MReader_things_25 (by decide) ?_
      refine zr_istore F zd_MReader_things_29 (by decide) ?_
      obtain ⟨q78, eq78, h⟩ := zoB_s h
      refine zr_loc (L' := [(0, .ref (b + o)), (1, .int x0_), (2, .int x1_), (3, .int 0), (4, .int 1)]) ⟨rfl, rfl, rfl, rfl, rfl, trivial⟩ ?_
      refine lp_MReader_things_31 F _ _ _ _ _ _ _ _ eq78 ?_
      ·
        refine zr_aload_n F zd_MReader_things_119 rfl ?_
        refine zr_bipushv (v := 93) F zd_MReader_things_120 (by decide) ?_
        obtain ⟨le80, hs79, h⟩ := zoS_s h
        obtain ⟨p81, ep81, h⟩ := zoB_s h
        refine zr_callV0 F (k_MReader_sign l D tA b sh _ ep81) zd_MReader_things_122 (zW_o hs79 (by decide)) rfl zs_MReader_55 rfl zq_MReader_sign rfl rfl ⟨(Nat.le_of_ble_eq_true rfl), (Nat.le_of_ble_eq_true rfl)⟩ (Nat.le_of_ble_eq_true rfl) ⟨(Nat.le_of_ble_eq_true rfl), (Nat.le_of_ble_eq_true rfl)⟩ ?_
        obtain rfl := Option.some.inj h
        exact zr_vret F hr zd_MReader_things_125 (Nat.le_of_ble_eq_true rfl) (Nat.le_of_ble_eq_true rfl) ⟨rfl, rfl, rfl⟩
abbrev zb_MReader_camera : ByteArray := prog_17_method_22_code
def zy_MReader_camera : MethodName := ⟨"OrreryBoxModel$Reader", "camera", "()V"⟩
theorem zc_MReader_camera : Cond.code zy_MReader_camera zb_MReader_camera 1 none ∈ gw := gw_t 1899 (by decide +kernel) rfl
theorem zq_MReader_camera : zy_MReader_camera.cls ≠ "java/lang/invoke/MethodHandle" ∧ zy_MReader_camera.cls ≠ "java/lang/invoke/VarHandle" ∧ (parseMethodDescriptor zy_MReader_camera.desc).map (fun d => d.parameters.length) = some 0 := by decide +kernel
theorem zd_MReader_camera_0 : decode zb_MReader_camera 0 = .ok (.aload_n 0, 1) := by decide +kernel
theorem zd_MReader_camera_1 : decode zb_MReader_camera 1 = .ok (.bipush 123, 2) := by decide +kernel
theorem zd_MReader_camera_3 : decode zb_MReader_camera 3 = .ok (.invokevirtual 55, 3) := by decide +kernel
theorem zd_MReader_camera_6 : decode zb_MReader_camera 6 = .ok (.aload_n 0, 1) := by decide +kernel
theorem zd_MReader_camera_7 : decode zb_MReader_camera 7 = .ok (.ldc 195, 2) := by decide +kernel
theorem zd_MReader_camera_9 : decode zb_MReader_camera 9 = .ok (.aload_n 0, 1) := by decide +kernel
theorem zd_MReader_camera_10 : decode zb_MReader_camera 10 = .ok (.getfield 13, 3) := by decide +kernel
theorem zd_MReader_camera_13 : decode zb_MReader_camera 13 = .ok (.getfield 260, 3) := by decide +kernel
theorem zd_MReader_camera_16 : decode zb_MReader_camera 16 = .ok (.iconst 0, 1) := by decide +kernel
theorem zd_MReader_camera_17 : decode zb_MReader_camera 17 = .ok (.iconst 5, 1) := by decide +kernel
theorem zd_MReader_camera_18 : decode zb_MReader_camera 18 = .ok (.invokevirtual 199, 3) := by decide +kernel
theorem zd_MReader_camera_21 : decode zb_MReader_camera 21 = .ok (.aload_n 0, 1) := by decide +kernel
theorem zd_MReader_camera_22 : decode zb_MReader_camera 22 = .ok (.bipush 44, 2) := by decide +kernel
theorem zd_MReader_camera_24 : decode zb_MReader_camera 24 = .ok (.invokevirtual 55, 3) := by decide +kernel
theorem zd_MReader_camera_27 : decode zb_MReader_camera 27 = .ok (.aload_n 0, 1) := by decide +kernel
theorem zd_MReader_camera_28 : decode zb_MReader_camera 28 = .ok (.ldc 203, 2) := by decide +kernel
theorem zd_MReader_camera_30 : decode zb_MReader_camera 30 = .ok (.aload_n 0, 1) := by decide +kernel
theorem zd_MReader_camera_31 : decode zb_MReader_camera 31 = .ok (.getfield 13, 3) := by decide +kernel
theorem zd_MReader_camera_34 : decode zb_MReader_camera 34 = .ok (.getfield 263, 3) := by decide +kernel
theorem zd_MReader_camera_37 : decode zb_MReader_camera 37 = .ok (.iconst 0, 1) := by decide +kernel
theorem zd_MReader_camera_38 : decode zb_MReader_camera 38 = .ok (.bipush 6, 2) := by decide +kernel
theorem zd_MReader_camera_40 : decode zb_MReader_camera 40 = .ok (.invokevirtual 199, 3) := by decide +kernel
theorem zd_MReader_camera_43 : decode zb_MReader_camera 43 = .ok (.aload_n 0, 1) := by decide +kernel
theorem zd_MReader_camera_44 : decode zb_MReader_camera 44 = .ok (.bipush 44, 2) := by decide +kernel
theorem zd_MReader_camera_46 : decode zb_MReader_camera 46 = .ok (.invokevirtual 55, 3) := by decide +kernel
theorem zd_MReader_camera_49 : decode zb_MReader_camera 49 = .ok (.aload_n 0, 1) := by decide +kernel
theorem zd_MReader_camera_50 : decode zb_MReader_camera 50 = .ok (.getfield 13, 3) := by decide +kernel
theorem zd_MReader_camera_53 : decode zb_MReader_camera 53 = .ok (.aload_n 0, 1) := by decide +kernel
theorem zd_MReader_camera_54 : decode zb_MReader_camera 54 = .ok (.ldc_w 266, 3) := by decide +kernel
theorem zd_MReader_camera_57 : decode zb_MReader_camera 57 = .ok (.bipush 8, 2) := by decide +kernel
theorem zd_MReader_camera_59 : decode zb_MReader_camera 59 = .ok (.sipush 512, 3) := by decide +kernel
theorem zd_MReader_camera_62 : decode zb_MReader_camera 62 = .ok (.invokevirtual 121, 3) := by decide +kernel
theorem zd_MReader_camera_65 : decode zb_MReader_camera 65 = .ok (.putfield 268, 3) := by decide +kernel
theorem zd_MReader_camera_68 : decode zb_MReader_camera 68 = .ok (.aload_n 0, 1) := by decide +kernel
theorem zd_MReader_camera_69 : decode zb_MReader_camera 69 = .ok (.bipush 125, 2) := by decide +kernel
theorem zd_MReader_camera_71 : decode zb_MReader_camera 71 = .ok (.invokevirtual 55, 3) := by decide +kernel
theorem zd_MReader_camera_74 : decode zb_MReader_camera 74 = .ok (.return_, 1) := by decide +kernel
theorem zw_1407 : (Jvm.Cond.fieldLink "OrreryBoxModel$Reader" (260 : Nat) "OrreryBoxModel$Scene" "cameraMove" "[I") ∈ gw := gw_t 1407 (by decide +kernel) rfl
theorem zw_1411 : (Jvm.Cond.fieldLink "OrreryBoxModel$Reader" (263 : Nat) "OrreryBoxModel$Scene" "cameraTurn" "[I") ∈ gw := gw_t 1411 (by decide +kernel) rfl
theorem zw_1419 : (Jvm.Cond.fieldLink "OrreryBoxModel$Reader" (268 : Nat) "OrreryBoxModel$Scene" "focus" "I") ∈ gw := gw_t 1419 (by decide +kernel) rfl
def F_MReader_camera (sh : zSh) (mm : zMem) (o : Nat) : Option zMem := zoS (sh o) 14 (fun le2 => Option.bind (F_MReader_sign sh mm o 123) (fun p3 => zoS (sh o) 14 (fun le5 => Option.bind (p3.2.2 o 1) (fun a6 => zoS (sh a6) 15 (fun le8 => Option.bind (p3.2.2 a6 31) (fun a9 => zoS (sh o) 14 (fun le11 => Option.bind (F_MReader_three sh p3 o 56 a9 0 5) (fun p12 => zoS (sh o) 14 (fun le14 => Option.bind (F_MReader_sign sh p12 o 44) (fun p15 => zoS (sh o) 14 (fun le17 => Option.bind (p15.2.2 o 1) (fun a18 => zoS (sh a18) 15 (fun le20 => Option.bind (p15.2.2 a18 32) (fun a21 => zoS (sh o) 14 (fun le23 => Option.bind (F_MReader_three sh p15 o 57 a21 0 6) (fun p24 => zoS (sh o) 14 (fun le26 => Option.bind (F_MReader_sign sh p24 o 44) (fun p27 => zoS (sh o) 14 (fun le29 => Option.bind (p27.2.2 o 1) (fun a30 => zoS (sh o) 14 (fun le32 => Option.bind (F_MReader_single sh p27 o 64 8 512) (fun p33 => zoS (sh a30) 15 (fun le35 => zoL (mI (p33.2) a30 34 (p33.1)) (fun mm36 => zoS (sh o) 14 (fun le38 => Option.bind (F_MReader_sign sh mm36 o 125) (fun p39 => some p39))))))))))))))))))))))))))
set_option maxHeartbeats 4000000 in
set_option maxRecDepth 100000 in
theorem k_MReader_camera (l : Launch) (D : va_G) (tA : Nat → ClassId) (b : Nat) (sh : zSh) (n : Nat) {mm : zMem} {o : Nat} {r : zMem} (h : F_MReader_camera sh mm o = some r) : zM l D tA b zy_MReader_camera zb_MReader_camera 1 none 8 181 0 0 [.ref (b + o)] (zW tA b sh mm) n (zE none (zW tA b sh r) n) := by
  unfold F_MReader_camera at h
  refine zM_of (own := "OrreryBoxModel$Reader") (plainFor_of_name (by decide)) rfl (Nat.le_of_ble_eq_true rfl) (fun p e s m below meth c F hr hin hH => ?_)
  refine zr_aload_n F zd_MReader_camera_0 rfl ?_
  refine zr_bipushv (v := 123) F zd_MReader_camera_1 (by decide) ?_
  obtain ⟨le2, hs1, h⟩ := zoS_s h
  obtain ⟨p3, ep3, h⟩ := zoB_s h
  refine zr_callV0 F (k_MReader_sign l D tA b sh _ ep3) zd_MReader_camera_3 (zW_o hs1 (by decide)) rfl zs_MReader_55 rfl zq_MReader_sign rfl rfl ⟨(Nat.le_of_ble_eq_true rfl), (Nat.le_of_ble_eq_true rfl)⟩ (Nat.le_of_ble_eq_true rfl) ⟨(Nat.le_of_ble_eq_true rfl), (Nat.le_of_ble_eq_true rfl)⟩ ?_
  refine zr_aload_n F zd_MReader_camera_6 rfl ?_
  refine zr_ldcS F 56 "move" zd_MReader_camera_7 (by decide +kernel) ?_
  refine zr_aload_n F zd_MReader_camera_9 rfl ?_
  obtain ⟨le5, hs4, h⟩ := zoS_s h
  obtain ⟨a6, ea6, h⟩ := zoB_s h
  refine zr_get F 14 1 zd_MReader_camera_10 (zW_o hs4 (by decide)) rfl (by decide) zw_1505 rfl (by rfl) ?_
  refine zr_tor ea6 ?_
  refine zr_pcn 13 rfl ?_
  obtain ⟨le8, hs7, h⟩ := zoS_s h
  obtain ⟨a9, ea9, h⟩ := zoB_s h
  refine zr_get F 15 31 zd_MReader_camera_13 (zW_o hs7 (by decide)) rfl (by decide) zw_1407 rfl (by rfl) ?_
  refine zr_tor ea9 ?_
  refine zr_iconstv (v := 0) F zd_MReader_camera_16 (by decide) ?_
  refine zr_iconstv (v := 5) F zd_MReader_camera_17 (by decide) ?_
  obtain ⟨le11, hs10, h⟩ := zoS_s h
  obtain ⟨p12, ep12, h⟩ := zoB_s h
  refine zr_callV0 F (k_MReader_three l D tA b sh _ ep12) zd_MReader_camera_18 (zW_o hs10 (by decide)) rfl zs_MReader_199 rfl zq_MReader_three rfl rfl ⟨(Nat.le_of_ble_eq_true rfl), (Nat.le_of_ble_eq_true rfl)⟩ (Nat.le_of_ble_eq_true rfl) ⟨(Nat.le_of_ble_eq_true rfl), (Nat.le_of_ble_eq_true rfl)⟩ ?_
  refine zr_aload_n F zd_MReader_camera_21 rfl ?_
  refine zr_bipushv (v := 44) F zd_MReader_camera_22 (by decide) ?_
  obtain ⟨le14, hs13, h⟩ := zoS_s h
  obtain ⟨p15, ep15, h⟩ := zoB_s h
  refine zr_callV0 F (k_MReader_sign l D tA b sh _ ep15) zd_MReader_camera_24 (zW_o hs13 (by decide)) rfl zs_MReader_55 rfl zq_MReader_sign rfl rfl ⟨(Nat.le_of_ble_eq_true rfl), (Nat.le_of_ble_eq_true rfl)⟩ (Nat.le_of_ble_eq_true rfl) ⟨(Nat.le_of_ble_eq_true rfl), (Nat.le_of_ble_eq_true rfl)⟩ ?_
  refine zr_aload_n F zd_MReader_camera_27 rfl ?_
  refine zr_pcn 28 rfl ?_
  refine zr_ldcS F 57 "turn" zd_MReader_camera_28 (by decide +kernel) ?_
  refine zr_aload_n F zd_MReader_camera_30 rfl ?_
  obtain ⟨le17, hs16, h⟩ := zoS_s h
  obtain ⟨a18, ea18, h⟩ := zoB_s h
  refine zr_get F 14 1 zd_MReader_camera_31 (zW_o hs16 (by decide)) rfl (by decide) zw_1505 rfl (by rfl) ?_
  refine zr_tor ea18 ?_
  obtain ⟨le20, hs19, h⟩ := zoS_s h
  obtain ⟨a21, ea21, h⟩ := zoB_s h
  refine zr_get F 15 32 zd_MReader_camera_34 (zW_o hs19 (by decide)) rfl (by decide) zw_1411 rfl (by rfl) ?_
  refine zr_tor ea21 ?_
  refine zr_iconstv (v := 0) F zd_MReader_camera_37 (by decide) ?_
  refine zr_bipushv (v := 6) F zd_MReader_camera_38 (by decide) ?_
  obtain ⟨le23, hs22, h⟩ := zoS_s h
  obtain ⟨p24, ep24, h⟩ := zoB_s h
  refine zr_callV0 F (k_MReader_three l D tA b sh _ ep24) zd_MReader_camera_40 (zW_o hs22 (by decide)) rfl zs_MReader_199 rfl zq_MReader_three rfl rfl ⟨(Nat.le_of_ble_eq_true rfl), (Nat.le_of_ble_eq_true rfl)⟩ (Nat.le_of_ble_eq_true rfl) ⟨(Nat.le_of_ble_eq_true rfl), (Nat.le_of_ble_eq_true rfl)⟩ ?_
  refine zr_aload_n F zd_MReader_camera_43 rfl ?_
  refine zr_pcn 44 rfl ?_
  refine zr_bipushv (v := 44) F zd_MReader_camera_44 (by decide) ?_
  obtain ⟨le26, hs25, h⟩ := zoS_s h
  obtain ⟨p27, ep27, h⟩ := zoB_s h
  refine zr_callV0 F (k_MReader_sign l D tA b sh _ ep27) zd_MReader_camera_46 (zW_o hs25 (by decide)) rfl zs_MReader_55 rfl zq_MReader_sign rfl rfl ⟨(Nat.le_of_ble_eq_true rfl), (Nat.le_of_ble_eq_true rfl)⟩ (Nat.le_of_ble_eq_true rfl) ⟨(Nat.le_of_ble_eq_true rfl), (Nat.le_of_ble_eq_true rfl)⟩ ?_
  refine zr_aload_n F zd_MReader_camera_49 rfl ?_
  obtain ⟨le29, hs28, h⟩ := zoS_s h
  obtain ⟨a30, ea30, h⟩ := zoB_s h
  refine zr_get F 14 1 zd_MReader_camera_50 (zW_o hs28 (by decide)) rfl (by decide) zw_1505 rfl (by rfl) ?_
  refine zr_tor ea30 ?_
  refine zr_aload_n F zd_MReader_camera_53 rfl ?_
  refine zr_ldcSW F 64 "focus" zd_MReader_camera_54 (by decide +kernel) ?_
  refine zr_bipushv (v := 8) F zd_MReader_camera_57 (by decide) ?_
  refine zr_sipushv (v := 512) F zd_MReader_camera_59 (by decide) ?_
  refine zr_pcn 62 rfl ?_
  obtain ⟨le32, hs31, h⟩ := zoS_s h
  obtain ⟨p33, ep33, h⟩ := zoB_s h
  refine zr_callV1 F (k_MReader_single l D tA b sh _ ep33) zd_MReader_camera_62 (zW_o hs31 (by decide)) rfl zs_MReader_121 rfl zq_MReader_single rfl rfl ⟨(Nat.le_of_ble_eq_true rfl), (Nat.le_of_ble_eq_true rfl)⟩ (Nat.le_of_ble_eq_true rfl) ⟨(Nat.le_of_ble_eq_true rfl), (Nat.le_of_ble_eq_true rfl)⟩ ?_
  obtain ⟨le35, hs34, h⟩ := zoS_s h
  refine zr_put F 15 34 zd_MReader_camera_65 (zW_o hs34 (by decide)) rfl (by decide) zw_1419 rfl rfl rfl rfl (by exact (Nat.le_of_ble_eq_true rfl)) ?_
  obtain ⟨mm36, emm36, h⟩ := zoL_s h
  refine zr_norm (zW tA b sh mm36) _ (by rw [emm36]; exact zW_pI (v := (p33.1)) hs34 (by decide) (zf_I_15_34 b _ _ _)) rfl ?_
  refine zr_aload_n F zd_MReader_camera_68 rfl ?_
  refine zr_bipushv (v := 125) F zd_MReader_camera_69 (by decide) ?_
  obtain ⟨le38, hs37, h⟩ := zoS_s h
  obtain ⟨p39, ep39, h⟩ := zoB_s h
  refine zr_callV0 F (k_MReader_sign l D tA b sh _ ep39) zd_MReader_camera_71 (zW_o hs37 (by decide)) rfl zs_MReader_55 rfl zq_MReader_sign rfl rfl ⟨(Nat.le_of_ble_eq_true rfl), (Nat.le_of_ble_eq_true rfl)⟩ (Nat.le_of_ble_eq_true rfl) ⟨(Nat.le_of_ble_eq_true rfl), (Nat.le_of_ble_eq_true rfl)⟩ ?_
  obtain rfl := Option.some.inj h
  exact zr_vret F hr zd_MReader_camera_74 (Nat.le_of_ble_eq_true rfl) (Nat.le_of_ble_eq_true rfl) ⟨rfl, rfl, rfl⟩
abbrev zb_MReader_light : ByteArray := prog_17_method_23_code
def zy_MReader_light : MethodName := ⟨"OrreryBoxModel$Reader", "light", "()V"⟩
theorem zc_MReader_light : Cond.code zy_MReader_light zb_MReader_light 1 none ∈ gw := gw_t 1904 (by decide +kernel) rfl
theorem zq_MReader_light : zy_MReader_light.cls ≠ "java/lang/invoke/MethodHandle" ∧ zy_MReader_light.cls ≠ "java/lang/invoke/VarHandle" ∧ (parseMethodDescriptor zy_MReader_light.desc).map (fun d => d.parameters.length) = some 0 := by decide +kernel
theorem zd_MReader_light_0 : decode zb_MReader_light 0 = .ok (.aload_n 0, 1) := by decide +kernel
theorem zd_MReader_light_1 : decode zb_MReader_light 1 = .ok (.bipush 123, 2) := by decide +kernel
theorem zd_MReader_light_3 : decode zb_MReader_light 3 = .ok (.invokevirtual 55, 3) := by decide +kernel
theorem zd_MReader_light_6 : decode zb_MReader_light 6 = .ok (.aload_n 0, 1) := by decide +kernel
theorem zd_MReader_light_7 : decode zb_MReader_light 7 = .ok (.ldc_w 270, 3) := by decide +kernel
theorem zd_MReader_light_10 : decode zb_MReader_light 10 = .ok (.aload_n 0, 1) := by decide +kernel
theorem zd_MReader_light_11 : decode zb_MReader_light 11 = .ok (.getfield 13, 3) := by decide +kernel
theorem zd_MReader_light_14 : decode zb_MReader_light 14 = .ok (.getfield 272, 3) := by decide +kernel
theorem zd_MReader_light_17 : decode zb_MReader_light 17 = .ok (.iconst 0, 1) := by decide +kernel
theorem zd_MReader_light_18 : decode zb_MReader_light 18 = .ok (.iconst 2, 1) := by decide +kernel
theorem zd_MReader_light_19 : decode zb_MReader_light 19 = .ok (.invokevirtual 199, 3) := by decide +kernel
theorem zd_MReader_light_22 : decode zb_MReader_light 22 = .ok (.aload_n 0, 1) := by decide +kernel
theorem zd_MReader_light_23 : decode zb_MReader_light 23 = .ok (.bipush 44, 2) := by decide +kernel
theorem zd_MReader_light_25 : decode zb_MReader_light 25 = .ok (.invokevirtual 55, 3) := by decide +kernel
theorem zd_MReader_light_28 : decode zb_MReader_light 28 = .ok (.aload_n 0, 1) := by decide +kernel
theorem zd_MReader_light_29 : decode zb_MReader_light 29 = .ok (.getfield 13, 3) := by decide +kernel
theorem zd_MReader_light_32 : decode zb_MReader_light 32 = .ok (.aload_n 0, 1) := by decide +kernel
theorem zd_MReader_light_33 : decode zb_MReader_light 33 = .ok (.ldc_w 274, 3) := by decide +kernel
theorem zd_MReader_light_36 : decode zb_MReader_light 36 = .ok (.iconst 0, 1) := by decide +kernel
theorem zd_MReader_light_37 : decode zb_MReader_light 37 = .ok (.ldc 97, 2) := by decide +kernel
theorem zd_MReader_light_39 : decode zb_MReader_light 39 = .ok (.invokevirtual 121, 3) := by decide +kernel
theorem zd_MReader_light_42 : decode zb_MReader_light 42 = .ok (.putfield 276, 3) := by decide +kernel
theorem zd_MReader_light_45 : decode zb_MReader_light 45 = .ok (.aload_n 0, 1) := by decide +kernel
theorem zd_MReader_light_46 : decode zb_MReader_light 46 = .ok (.bipush 125, 2) := by decide +kernel
theorem zd_MReader_light_48 : decode zb_MReader_light 48 = .ok (.invokevirtual 55, 3) := by decide +kernel
theorem zd_MReader_light_51 : decode zb_MReader_light 51 = .ok (.return_, 1) := by decide +kernel
theorem zw_1415 : (Jvm.Cond.fieldLink "OrreryBoxModel$Reader" (272 : Nat) "OrreryBoxModel$Scene" "toward" "[I") ∈ gw := gw_t 1415 (by decide +kernel) rfl
theorem zw_1423 : (Jvm.Cond.fieldLink "OrreryBoxModel$Reader" (276 : Nat) "OrreryBoxModel$Scene" "ambient" "I") ∈ gw := gw_t 1423 (by decide +kernel) rfl
def F_MReader_light (sh : zSh) (mm : zMem) (o : Nat) : Option zMem := zoS (sh o) 14 (fun le2 => Option.bind (F_MReader_sign sh mm o 123) (fun p3 => zoS (sh o) 14 (fun le5 => Option.bind (p3.2.2 o 1) (fun a6 => zoS (sh a6) 15 (fun le8 => Option.bind (p3.2.2 a6 33) (fun a9 => zoS (sh o) 14 (fun le11 => Option.bind (F_MReader_three sh p3 o 65 a9 0 2) (fun p12 => zoS (sh o) 14 (fun le14 => Option.bind (F_MReader_sign sh p12 o 44) (fun p15 => zoS (sh o) 14 (fun le17 => Option.bind (p15.2.2 o 1) (fun a18 => zoS (sh o) 14 (fun le20 => Option.bind (F_MReader_single sh p15 o 66 0 65536) (fun p21 => zoS (sh a18) 15 (fun le23 => zoL (mI (p21.2) a18 35 (p21.1)) (fun mm24 => zoS (sh o) 14 (fun le26 => Option.bind (F_MReader_sign sh mm24 o 125) (fun p27 => some p27))))))))))))))))))
set_option maxHeartbeats 4000000 in
set_option maxRecDepth 100000 in
theorem k_MReader_light (l : Launch) (D : va_G) (tA : Nat → ClassId) (b : Nat) (sh : zSh) (n : Nat) {mm : zMem} {o : Nat} {r : zMem} (h : F_MReader_light sh mm o = some r) : zM l D tA b zy_MReader_light zb_MReader_light 1 none 8 181 0 0 [.ref (b + o)] (zW tA b sh mm) n (zE none (zW tA b sh r) n) := by
  unfold F_MReader_light at h
  refine zM_of (own := "OrreryBoxModel$Reader") (plainFor_of_name (by decide)) rfl (Nat.le_of_ble_eq_true rfl) (fun p e s m below meth c F hr hin hH => ?_)
  refine zr_aload_n F zd_MReader_light_0 rfl ?_
  refine zr_bipushv (v := 123) F zd_MReader_light_1 (by decide) ?_
  obtain ⟨le2, hs1, h⟩ := zoS_s h
  obtain ⟨p3, ep3, h⟩ := zoB_s h
  refine zr_callV0 F (k_MReader_sign l D tA b sh _ ep3) zd_MReader_light_3 (zW_o hs1 (by decide)) rfl zs_MReader_55 rfl zq_MReader_sign rfl rfl ⟨(Nat.le_of_ble_eq_true rfl), (Nat.le_of_ble_eq_true rfl)⟩ (Nat.le_of_ble_eq_true rfl) ⟨(Nat.le_of_ble_eq_true rfl), (Nat.le_of_ble_eq_true rfl)⟩ ?_
  refine zr_aload_n F zd_MReader_light_6 rfl ?_
  refine zr_ldcSW F 65 "toward" zd_MReader_light_7 (by decide +kernel) ?_
  refine zr_aload_n F zd_MReader_light_10 rfl ?_
  obtain ⟨le5, hs4, h⟩ := zoS_s h
  obtain ⟨a6, ea6, h⟩ := zoB_s h
  refine zr_get F 14 1 zd_MReader_light_11 (zW_o hs4 (by decide)) rfl (by decide) zw_1505 rfl (by rfl) ?_
  refine zr_tor ea6 ?_
  refine zr_pcn 14 rfl ?_
  obtain ⟨le8, hs7, h⟩ := zoS_s h
  obtain ⟨a9, ea9, h⟩ := zoB_s h
  refine zr_get F 15 33 zd_MReader_light_14 (zW_o hs7 (by decide)) rfl (by decide) zw_1415 rfl (by rfl) ?_
  refine zr_tor ea9 ?_
  refine zr_iconstv (v := 0) F zd_MReader_light_17 (by decide) ?_
  refine zr_iconstv (v := 2) F zd_MReader_light_18 (by decide) ?_
  obtain ⟨le11, hs10, h⟩ := zoS_s h
  obtain ⟨p12, ep12, h⟩ := zoB_s h
  refine zr_callV0 F (k_MReader_three l D tA b sh _ ep12) zd_MReader_light_19 (zW_o hs10 (by decide)) rfl zs_MReader_199 rfl zq_MReader_three rfl rfl ⟨(Nat.le_of_ble_eq_true rfl), (Nat.le_of_ble_eq_true rfl)⟩ (Nat.le_of_ble_eq_true rfl) ⟨(Nat.le_of_ble_eq_true rfl), (Nat.le_of_ble_eq_true rfl)⟩ ?_
  refine zr_aload_n F zd_MReader_light_22 rfl ?_
  refine zr_bipushv (v := 44) F zd_MReader_light_23 (by decide) ?_
  obtain ⟨le14, hs13, h⟩ := zoS_s h
  obtain ⟨p15, ep15, h⟩ := zoB_s h
  refine zr_callV0 F (k_MReader_sign l D tA b sh _ ep15) zd_MReader_light_25 (zW_o hs13 (by decide)) rfl zs_MReader_55 rfl zq_MReader_sign rfl rfl ⟨(Nat.le_of_ble_eq_true rfl), (Nat.le_of_ble_eq_true rfl)⟩ (Nat.le_of_ble_eq_true rfl) ⟨(Nat.le_of_ble_eq_true rfl), (Nat.le_of_ble_eq_true rfl)⟩ ?_
  refine zr_aload_n F zd_MReader_light_28 rfl ?_
  refine zr_pcn 29 rfl ?_
  obtain ⟨le17, hs16, h⟩ := zoS_s h
  obtain ⟨a18, ea18, h⟩ := zoB_s h
  refine zr_get F 14 1 zd_MReader_light_29 (zW_o hs16 (by decide)) rfl (by decide) zw_1505 rfl (by rfl) ?_
  refine zr_tor ea18 ?_
  refine zr_aload_n F zd_MReader_light_32 rfl ?_
  refine zr_ldcSW F 66 "ambient" zd_MReader_light_33 (by decide +kernel) ?_
  refine zr_iconstv (v := 0) F zd_MReader_light_36 (by decide) ?_
  refine zr_ldc F zd_MReader_light_37 zw_1852 ?_
  obtain ⟨le20, hs19, h⟩ := zoS_s h
  obtain ⟨p21, ep21, h⟩ := zoB_s h
  refine zr_callV1 F (k_MReader_single l D tA b sh _ ep21) zd_MReader_light_39 (zW_o hs19 (by decide)) rfl zs_MReader_121 rfl zq_MReader_single rfl rfl ⟨(Nat.le_of_ble_eq_true rfl), (Nat.le_of_ble_eq_true rfl)⟩ (Nat.le_of_ble_eq_true rfl) ⟨(Nat.le_of_ble_eq_true rfl), (Nat.le_of_ble_eq_true rfl)⟩ ?_
  obtain ⟨le23, hs22, h⟩ := zoS_s h
  refine zr_put F 15 35 zd_MReader_light_42 (zW_o hs22 (by decide)) rfl (by decide) zw_1423 rfl rfl rfl rfl (by exact (Nat.le_of_ble_eq_true rfl)) ?_
  obtain ⟨mm24, emm24, h⟩ := zoL_s h
  refine zr_norm (zW tA b sh mm24) _ (by rw [emm24]; exact zW_pI (v := (p21.1)) hs22 (by decide) (zf_I_15_35 b _ _ _)) rfl ?_
  refine zr_aload_n F zd_MReader_light_45 rfl ?_
  refine zr_pcn 46 rfl ?_
  refine zr_bipushv (v := 125) F zd_MReader_light_46 (by decide) ?_
  obtain ⟨le26, hs25, h⟩ := zoS_s h
  obtain ⟨p27, ep27, h⟩ := zoB_s h
  refine zr_callV0 F (k_MReader_sign l D tA b sh _ ep27) zd_MReader_light_48 (zW_o hs25 (by decide)) rfl zs_MReader_55 rfl zq_MReader_sign rfl rfl ⟨(Nat.le_of_ble_eq_true rfl), (Nat.le_of_ble_eq_true rfl)⟩ (Nat.le_of_ble_eq_true rfl) ⟨(Nat.le_of_ble_eq_true rfl), (Nat.le_of_ble_eq_true rfl)⟩ ?_
  obtain rfl := Option.some.inj h
  exact zr_vret F hr zd_MReader_light_51 (Nat.le_of_ble_eq_true rfl) (Nat.le_of_ble_eq_true rfl) ⟨rfl, rfl, rfl⟩
abbrev zb_MReader_partName : ByteArray := prog_17_method_24_code
def zy_MReader_partName : MethodName := ⟨"OrreryBoxModel$Reader", "partName", "(I)Ljava/lang/String;"⟩
theorem zc_MReader_partName : Cond.code zy_MReader_partName zb_MReader_partName 1 (some (.object "java/lang/String")) ∈ gw := gw_t 1787 (by decide +kernel) rfl
theorem zq_MReader_partName : zy_MReader_partName.cls ≠ "java/lang/invoke/MethodHandle" ∧ zy_MReader_partName.cls ≠ "java/lang/invoke/VarHandle" ∧ (parseMethodDescriptor zy_MReader_partName.desc).map (fun d => d.parameters.length) = some 1 := by decide +kernel
theorem zd_MReader_partName_0 : decode zb_MReader_partName 0 = .ok (.iload_n 0, 1) := by decide +kernel
theorem zd_MReader_partName_1 : decode zb_MReader_partName 1 = .ok (.tableswitch 63 0 5 #[39, 43, 47, 51, 55, 59], 39) := by decide +kernel
theorem zd_MReader_partName_40 : decode zb_MReader_partName 40 = .ok (.ldc_w 278, 3) := by decide +kernel
theorem zd_MReader_partName_43 : decode zb_MReader_partName 43 = .ok (.areturn, 1) := by decide +kernel
theorem zd_MReader_partName_44 : decode zb_MReader_partName 44 = .ok (.ldc_w 279, 3) := by decide +kernel
theorem zd_MReader_partName_47 : decode zb_MReader_partName 47 = .ok (.areturn, 1) := by decide +kernel
theorem zd_MReader_partName_48 : decode zb_MReader_partName 48 = .ok (.ldc_w 280, 3) := by decide +kernel
theorem zd_MReader_partName_51 : decode zb_MReader_partName 51 = .ok (.areturn, 1) := by decide +kernel
theorem zd_MReader_partName_52 : decode zb_MReader_partName 52 = .ok (.ldc_w 281, 3) := by decide +kernel
theorem zd_MReader_partName_55 : decode zb_MReader_partName 55 = .ok (.areturn, 1) := by decide +kernel
theorem zd_MReader_partName_56 : decode zb_MReader_partName 56 = .ok (.ldc_w 282, 3) := by decide +kernel
theorem zd_MReader_partName_59 : decode zb_MReader_partName 59 = .ok (.areturn, 1) := by decide +kernel
theorem zd_MReader_partName_60 : decode zb_MReader_partName 60 = .ok (.ldc_w 283, 3) := by decide +kernel
theorem zd_MReader_partName_63 : decode zb_MReader_partName 63 = .ok (.areturn, 1) := by decide +kernel
theorem zd_MReader_partName_64 : decode zb_MReader_partName 64 = .ok (.ldc_w 285, 3) := by decide +kernel
theorem zd_MReader_partName_67 : decode zb_MReader_partName 67 = .ok (.areturn, 1) := by decide +kernel
def F_MReader_partName (sh : zSh) (mm : zMem) (x0_ : Int32) : Option (Nat × zMem) := (if x0_ = 0 then some (35, mm) else (if x0_ = 1 then some (36, mm) else (if x0_ = 2 then some (37, mm) else (if x0_ = 3 then some (38, mm) else (if x0_ = 4 then some (39, mm) else (if x0_ = 5 then some (40, mm) else some (41, mm)))))))
set_option maxHeartbeats 4000000 in
set_option maxRecDepth 100000 in
theorem k_MReader_partName (l : Launch) (D : va_G) (tA : Nat → ClassId) (b : Nat) (sh : zSh) (n : Nat) {mm : zMem} {x0_ : Int32} {r : (Nat × zMem)} (h : F_MReader_partName sh mm x0_ = some r) : zM l D tA b zy_MReader_partName zb_MReader_partName 1 (some (.object "java/lang/String")) 0 0 0 0 [.int x0_] (zW tA b sh mm) n (zE (some (.ref (D.2 1000 (r.1)))) (zW tA b sh r.2) n) := by
  unfold F_MReader_partName at h
  refine zM_of (own := "OrreryBoxModel$Reader") (plainFor_of_name (by decide)) rfl (Nat.le_of_ble_eq_true rfl) (fun p e s m below meth c F hr hin hH => ?_)
  refine zr_iload_n F zd_MReader_partName_0 rfl ?_
  by_cases hb1_0 : x0_ = 0
  ·
    rw [if_pos hb1_0] at h
    refine zr_tableIn F 40 zd_MReader_partName_1 (by rw [hb1_0]; decide) (by rw [hb1_0]; decide) (by rw [hb1_0]; rfl) (by decide) ?_
    refine zr_ldcSW F 35 "textures" zd_MReader_partName_40 (by decide +kernel) ?_
    obtain rfl := Option.some.inj h
    exact zr_aret F hr (Or.inl ⟨_, rfl⟩) (Or.inr ⟨_, rfl⟩) zd_MReader_partName_43 (Nat.le_of_ble_eq_true rfl) (Nat.le_of_ble_eq_true rfl) ⟨rfl, rfl, rfl⟩
  ·
    rw [if_neg hb1_0] at h
    by_cases hb1_1 : x0_ = 1
    ·
      rw [if_pos hb1_1] at h
      refine zr_tableIn F 44 zd_MReader_partName_1 (by rw [hb1_1]; decide) (by rw [hb1_1]; decide) (by rw [hb1_1]; rfl) (by decide) ?_
      refine zr_ldcSW F 36 "materials" zd_MReader_partName_44 (by decide +kernel) ?_
      obtain rfl := Option.some.inj h
      exact zr_aret F hr (Or.inl ⟨_, rfl⟩) (Or.inr ⟨_, rfl⟩) zd_MReader_partName_47 (Nat.le_of_ble_eq_true rfl) (Nat.le_of_ble_eq_true rfl) ⟨rfl, rfl, rfl⟩
    ·
      rw [if_neg hb1_1] at h
      by_cases hb1_2 : x0_ = 2
      ·
        rw [if_pos hb1_2] at h
        refine zr_tableIn F 48 zd_MReader_partName_1 (by rw [hb1_2]; decide) (by rw [hb1_2]; decide) (by rw [hb1_2]; rfl) (by decide) ?_
        refine zr_ldcSW F 37 "meshes" zd_MReader_partName_48 (by decide +kernel) ?_
        refine zr_pcn 51 rfl ?_
        obtain rfl := Option.some.inj h
        exact zr_aret F hr (Or.inl ⟨_, rfl⟩) (Or.inr ⟨_, rfl⟩) zd_MReader_partName_51 (Nat.le_of_ble_eq_true rfl) (Nat.le_of_ble_eq_true rfl) ⟨rfl, rfl, rfl⟩
      ·
        rw [if_neg hb1_2] at h
        by_cases hb1_3 : x0_ = 3
        ·
          rw [if_pos hb1_3] at h
          refine zr_tableIn F 52 zd_MReader_partName_1 (by rw [hb1_3]; decide) (by rw [hb1_3]; decide) (by rw [hb1_3]; rfl) (by decide) ?_
          refine zr_ldcSW F 38 "nodes" zd_MReader_partName_52 (by decide +kernel) ?_
          obtain rfl := Option.some.inj h
          exact zr_aret F hr (Or.inl ⟨_, rfl⟩) (Or.inr ⟨_, rfl⟩) zd_MReader_partName_55 (Nat.le_of_ble_eq_true rfl) (Nat.le_of_ble_eq_true rfl) ⟨rfl, rfl, rfl⟩
        ·
          rw [if_neg hb1_3] at h
          by_cases hb1_4 : x0_ = 4
          ·
            rw [if_pos hb1_4] at h
            refine zr_tableIn F 56 zd_MReader_partName_1 (by rw [hb1_4]; decide) (by rw [hb1_4]; decide) (by rw [hb1_4]; rfl) (by decide) ?_
            refine zr_ldcSW F 39 "tracks" zd_MReader_partName_56 (by decide +kernel) ?_
            obtain rfl := Option.some.inj h
            exact zr_aret F hr (Or.inl ⟨_, rfl⟩) (Or.inr ⟨_, rfl⟩) zd_MReader_partName_59 (Nat.le_of_ble_eq_true rfl) (Nat.le_of_ble_eq_true rfl) ⟨rfl, rfl, rfl⟩
          ·
            rw [if_neg hb1_4] at h
            by_cases hb1_5 : x0_ = 5
            ·
              rw [if_pos hb1_5] at h
              refine zr_tableIn F 60 zd_MReader_partName_1 (by rw [hb1_5]; decide) (by rw [hb1_5]; decide) (by rw [hb1_5]; rfl) (by decide) ?_
              refine zr_ldcSW F 40 "camera" zd_MReader_partName_60 (by decide +kernel) ?_
              obtain rfl := Option.some.inj h
              exact zr_aret F hr (Or.inl ⟨_, rfl⟩) (Or.inr ⟨_, rfl⟩) zd_MReader_partName_63 (Nat.le_of_ble_eq_true rfl) (Nat.le_of_ble_eq_true rfl) ⟨rfl, rfl, rfl⟩
            ·
              rw [if_neg hb1_5] at h
              refine zr_tableOut F 64 zd_MReader_partName_1 (zx_out x0_ 0 5 (by decide) (by decide) (by decide) (by omega) (fun j hj => by match j, hj with | 0, _ => exact hb1_0 | 1, _ => exact hb1_1 | 2, _ => exact hb1_2 | 3, _ => exact hb1_3 | 4, _ => exact hb1_4 | 5, _ => exact hb1_5 | j + 6, hq => exact absurd hq (by omega))) (by decide) ?_
              refine zr_ldcSW F 41 "light" zd_MReader_partName_64 (by decide +kernel) ?_
              refine zr_pcn 67 rfl ?_
              obtain rfl := Option.some.inj h
              exact zr_aret F hr (Or.inl ⟨_, rfl⟩) (Or.inr ⟨_, rfl⟩) zd_MReader_partName_67 (Nat.le_of_ble_eq_true rfl) (Nat.le_of_ble_eq_true rfl) ⟨rfl, rfl, rfl⟩
