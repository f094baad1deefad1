abbrev zb_MPacker_write : ByteArray := prog_15_method_7_code
def zy_MPacker_write : MethodName := ⟨"OrreryBoxModel$Packer", "write", "(II[I)I"⟩
theorem zc_MPacker_write : Cond.code zy_MPacker_write zb_MPacker_write 6 (some .int) ∈ gw := gw_t 2189 (by decide +kernel) rfl
theorem zq_MPacker_write : zy_MPacker_write.cls ≠ "java/lang/invoke/MethodHandle" ∧ zy_MPacker_write.cls ≠ "java/lang/invoke/VarHandle" ∧ (parseMethodDescriptor zy_MPacker_write.desc).map (fun d => d.parameters.length) = some 3 := by decide +kernel
theorem zd_MPacker_write_0 : decode zb_MPacker_write 0 = .ok (.aload_n 0, 1) := by decide +kernel
theorem zd_MPacker_write_1 : decode zb_MPacker_write 1 = .ok (.iload_n 1, 1) := by decide +kernel
theorem zd_MPacker_write_2 : decode zb_MPacker_write 2 = .ok (.putfield 33, 3) := by decide +kernel
theorem zd_MPacker_write_5 : decode zb_MPacker_write 5 = .ok (.aload_n 0, 1) := by decide +kernel
theorem zd_MPacker_write_6 : decode zb_MPacker_write 6 = .ok (.aload_n 3, 1) := by decide +kernel
theorem zd_MPacker_write_7 : decode zb_MPacker_write 7 = .ok (.putfield 36, 3) := by decide +kernel
theorem zd_MPacker_write_10 : decode zb_MPacker_write 10 = .ok (.aload_n 0, 1) := by decide +kernel
theorem zd_MPacker_write_11 : decode zb_MPacker_write 11 = .ok (.iconst 0, 1) := by decide +kernel
theorem zd_MPacker_write_12 : decode zb_MPacker_write 12 = .ok (.putfield 17, 3) := by decide +kernel
theorem zd_MPacker_write_15 : decode zb_MPacker_write 15 = .ok (.aload_n 0, 1) := by decide +kernel
theorem zd_MPacker_write_16 : decode zb_MPacker_write 16 = .ok (.ldc 39, 2) := by decide +kernel
theorem zd_MPacker_write_18 : decode zb_MPacker_write 18 = .ok (.invokevirtual 26, 3) := by decide +kernel
theorem zd_MPacker_write_21 : decode zb_MPacker_write 21 = .ok (.aload_n 0, 1) := by decide +kernel
theorem zd_MPacker_write_22 : decode zb_MPacker_write 22 = .ok (.ldc 40, 2) := by decide +kernel
theorem zd_MPacker_write_24 : decode zb_MPacker_write 24 = .ok (.invokevirtual 26, 3) := by decide +kernel
theorem zd_MPacker_write_27 : decode zb_MPacker_write 27 = .ok (.aload_n 0, 1) := by decide +kernel
theorem zd_MPacker_write_28 : decode zb_MPacker_write 28 = .ok (.bipush 73, 2) := by decide +kernel
theorem zd_MPacker_write_30 : decode zb_MPacker_write 30 = .ok (.bipush 72, 2) := by decide +kernel
theorem zd_MPacker_write_32 : decode zb_MPacker_write 32 = .ok (.bipush 68, 2) := by decide +kernel
theorem zd_MPacker_write_34 : decode zb_MPacker_write 34 = .ok (.bipush 82, 2) := by decide +kernel
theorem zd_MPacker_write_36 : decode zb_MPacker_write 36 = .ok (.invokevirtual 41, 3) := by decide +kernel
theorem zd_MPacker_write_39 : decode zb_MPacker_write 39 = .ok (.istore 4, 2) := by decide +kernel
theorem zd_MPacker_write_41 : decode zb_MPacker_write 41 = .ok (.aload_n 0, 1) := by decide +kernel
theorem zd_MPacker_write_42 : decode zb_MPacker_write 42 = .ok (.iload_n 1, 1) := by decide +kernel
theorem zd_MPacker_write_43 : decode zb_MPacker_write 43 = .ok (.invokevirtual 26, 3) := by decide +kernel
theorem zd_MPacker_write_46 : decode zb_MPacker_write 46 = .ok (.aload_n 0, 1) := by decide +kernel
theorem zd_MPacker_write_47 : decode zb_MPacker_write 47 = .ok (.iload_n 2, 1) := by decide +kernel
theorem zd_MPacker_write_48 : decode zb_MPacker_write 48 = .ok (.invokevirtual 26, 3) := by decide +kernel
theorem zd_MPacker_write_51 : decode zb_MPacker_write 51 = .ok (.aload_n 0, 1) := by decide +kernel
theorem zd_MPacker_write_52 : decode zb_MPacker_write 52 = .ok (.bipush 8, 2) := by decide +kernel
theorem zd_MPacker_write_54 : decode zb_MPacker_write 54 = .ok (.invokevirtual 21, 3) := by decide +kernel
theorem zd_MPacker_write_57 : decode zb_MPacker_write 57 = .ok (.aload_n 0, 1) := by decide +kernel
theorem zd_MPacker_write_58 : decode zb_MPacker_write 58 = .ok (.iconst 2, 1) := by decide +kernel
theorem zd_MPacker_write_59 : decode zb_MPacker_write 59 = .ok (.invokevirtual 21, 3) := by decide +kernel
theorem zd_MPacker_write_62 : decode zb_MPacker_write 62 = .ok (.aload_n 0, 1) := by decide +kernel
theorem zd_MPacker_write_63 : decode zb_MPacker_write 63 = .ok (.iconst 0, 1) := by decide +kernel
theorem zd_MPacker_write_64 : decode zb_MPacker_write 64 = .ok (.invokevirtual 21, 3) := by decide +kernel
theorem zd_MPacker_write_67 : decode zb_MPacker_write 67 = .ok (.aload_n 0, 1) := by decide +kernel
theorem zd_MPacker_write_68 : decode zb_MPacker_write 68 = .ok (.iconst 0, 1) := by decide +kernel
theorem zd_MPacker_write_69 : decode zb_MPacker_write 69 = .ok (.invokevirtual 21, 3) := by decide +kernel
theorem zd_MPacker_write_72 : decode zb_MPacker_write 72 = .ok (.aload_n 0, 1) := by decide +kernel
theorem zd_MPacker_write_73 : decode zb_MPacker_write 73 = .ok (.iconst 0, 1) := by decide +kernel
theorem zd_MPacker_write_74 : decode zb_MPacker_write 74 = .ok (.invokevirtual 21, 3) := by decide +kernel
theorem zd_MPacker_write_77 : decode zb_MPacker_write 77 = .ok (.aload_n 0, 1) := by decide +kernel
theorem zd_MPacker_write_78 : decode zb_MPacker_write 78 = .ok (.iload 4, 2) := by decide +kernel
theorem zd_MPacker_write_80 : decode zb_MPacker_write 80 = .ok (.invokevirtual 45, 3) := by decide +kernel
theorem zd_MPacker_write_83 : decode zb_MPacker_write 83 = .ok (.aload_n 0, 1) := by decide +kernel
theorem zd_MPacker_write_84 : decode zb_MPacker_write 84 = .ok (.iconst 0, 1) := by decide +kernel
theorem zd_MPacker_write_85 : decode zb_MPacker_write 85 = .ok (.putfield 48, 3) := by decide +kernel
theorem zd_MPacker_write_88 : decode zb_MPacker_write 88 = .ok (.iconst 0, 1) := by decide +kernel
theorem zd_MPacker_write_89 : decode zb_MPacker_write 89 = .ok (.istore 5, 2) := by decide +kernel
theorem zd_MPacker_write_91 : decode zb_MPacker_write 91 = .ok (.iload 5, 2) := by decide +kernel
theorem zd_MPacker_write_93 : decode zb_MPacker_write 93 = .ok (.iload_n 2, 1) := by decide +kernel
theorem zd_MPacker_write_94 : decode zb_MPacker_write 94 = .ok (.if_icmp .ge 15, 3) := by decide +kernel
theorem zd_MPacker_write_97 : decode zb_MPacker_write 97 = .ok (.aload_n 0, 1) := by decide +kernel
theorem zd_MPacker_write_98 : decode zb_MPacker_write 98 = .ok (.iload 5, 2) := by decide +kernel
theorem zd_MPacker_write_100 : decode zb_MPacker_write 100 = .ok (.invokevirtual 51, 3) := by decide +kernel
theorem zd_MPacker_write_103 : decode zb_MPacker_write 103 = .ok (.iinc 5 1, 3) := by decide +kernel
theorem zd_MPacker_write_106 : decode zb_MPacker_write 106 = .ok (.goto (-15), 3) := by decide +kernel
theorem zd_MPacker_write_109 : decode zb_MPacker_write 109 = .ok (.aload_n 0, 1) := by decide +kernel
theorem zd_MPacker_write_110 : decode zb_MPacker_write 110 = .ok (.bipush 73, 2) := by decide +kernel
theorem zd_MPacker_write_112 : decode zb_MPacker_write 112 = .ok (.bipush 68, 2) := by decide +kernel
theorem zd_MPacker_write_114 : decode zb_MPacker_write 114 = .ok (.bipush 65, 2) := by decide +kernel
theorem zd_MPacker_write_116 : decode zb_MPacker_write 116 = .ok (.bipush 84, 2) := by decide +kernel
theorem zd_MPacker_write_118 : decode zb_MPacker_write 118 = .ok (.invokevirtual 41, 3) := by decide +kernel
theorem zd_MPacker_write_121 : decode zb_MPacker_write 121 = .ok (.istore 4, 2) := by decide +kernel
theorem zd_MPacker_write_123 : decode zb_MPacker_write 123 = .ok (.aload_n 0, 1) := by decide +kernel
theorem zd_MPacker_write_124 : decode zb_MPacker_write 124 = .ok (.bipush 120, 2) := by decide +kernel
theorem zd_MPacker_write_126 : decode zb_MPacker_write 126 = .ok (.invokevirtual 21, 3) := by decide +kernel
theorem zd_MPacker_write_129 : decode zb_MPacker_write 129 = .ok (.aload_n 0, 1) := by decide +kernel
theorem zd_MPacker_write_130 : decode zb_MPacker_write 130 = .ok (.iconst 1, 1) := by decide +kernel
theorem zd_MPacker_write_131 : decode zb_MPacker_write 131 = .ok (.invokevirtual 21, 3) := by decide +kernel
theorem zd_MPacker_write_134 : decode zb_MPacker_write 134 = .ok (.aload_n 0, 1) := by decide +kernel
theorem zd_MPacker_write_135 : decode zb_MPacker_write 135 = .ok (.invokevirtual 54, 3) := by decide +kernel
theorem zd_MPacker_write_138 : decode zb_MPacker_write 138 = .ok (.aload_n 0, 1) := by decide +kernel
theorem zd_MPacker_write_139 : decode zb_MPacker_write 139 = .ok (.aload_n 0, 1) := by decide +kernel
theorem zd_MPacker_write_140 : decode zb_MPacker_write 140 = .ok (.invokevirtual 57, 3) := by decide +kernel
theorem zd_MPacker_write_143 : decode zb_MPacker_write 143 = .ok (.invokevirtual 26, 3) := by decide +kernel
theorem zd_MPacker_write_146 : decode zb_MPacker_write 146 = .ok (.aload_n 0, 1) := by decide +kernel
theorem zd_MPacker_write_147 : decode zb_MPacker_write 147 = .ok (.iload 4, 2) := by decide +kernel
theorem zd_MPacker_write_149 : decode zb_MPacker_write 149 = .ok (.invokevirtual 45, 3) := by decide +kernel
theorem zd_MPacker_write_152 : decode zb_MPacker_write 152 = .ok (.aload_n 0, 1) := by decide +kernel
theorem zd_MPacker_write_153 : decode zb_MPacker_write 153 = .ok (.aload_n 0, 1) := by decide +kernel
theorem zd_MPacker_write_154 : decode zb_MPacker_write 154 = .ok (.bipush 73, 2) := by decide +kernel
theorem zd_MPacker_write_156 : decode zb_MPacker_write 156 = .ok (.bipush 69, 2) := by decide +kernel
theorem zd_MPacker_write_158 : decode zb_MPacker_write 158 = .ok (.bipush 78, 2) := by decide +kernel
theorem zd_MPacker_write_160 : decode zb_MPacker_write 160 = .ok (.bipush 68, 2) := by decide +kernel
theorem zd_MPacker_write_162 : decode zb_MPacker_write 162 = .ok (.invokevirtual 41, 3) := by decide +kernel
theorem zd_MPacker_write_165 : decode zb_MPacker_write 165 = .ok (.invokevirtual 45, 3) := by decide +kernel
theorem zd_MPacker_write_168 : decode zb_MPacker_write 168 = .ok (.aload_n 0, 1) := by decide +kernel
theorem zd_MPacker_write_169 : decode zb_MPacker_write 169 = .ok (.getfield 17, 3) := by decide +kernel
theorem zd_MPacker_write_172 : decode zb_MPacker_write 172 = .ok (.ireturn, 1) := by decide +kernel
theorem zf_I_12_5 (b : Nat) (m : zMem) (k : Nat) (v : Int32) : (zfl b 12 m k).set 5 (.int v) = zfl b 12 (mI m k 5 v) k := by simp [zfl, mI, upd, vp_updL]
theorem zf_R_12_6 (b : Nat) (m : zMem) (k : Nat) (v : Option Nat) : (zfl b 12 m k).set 6 (zrf b v) = zfl b 12 (mR m k 6 v) k := by simp [zfl, mR, upd, vp_updL]
theorem zw_2190 : (Jvm.Cond.constant "OrreryBoxModel$Packer" (39 : Nat) (-1991225785 : Int32)) ∈ gw := gw_t 2190 (by decide +kernel) rfl
theorem zw_2199 : (Jvm.Cond.constant "OrreryBoxModel$Packer" (40 : Nat) (218765834 : Int32)) ∈ gw := gw_t 2199 (by decide +kernel) rfl
theorem zw_2200 : (Jvm.Cond.methodLink "OrreryBoxModel$Packer" (41 : Nat) ({ cls := "OrreryBoxModel$Packer", name := "begin", desc := "(IIII)I" } : Jvm.MethodName)) ∈ gw := gw_t 2200 (by decide +kernel) rfl
theorem zw_2202 : (Jvm.Cond.instanceMethod ({ cls := "OrreryBoxModel$Packer", name := "begin", desc := "(IIII)I" } : Jvm.MethodName)) ∈ gw := gw_t 2202 (by decide +kernel) rfl
theorem zv_120 : (Jvm.Cond.selects "OrreryBoxModel$Packer" (⟨"OrreryBoxModel$Packer", "begin", "(IIII)I"⟩ : MethodName) ⟨"OrreryBoxModel$Packer", "begin", "(IIII)I"⟩) ∈ gw := gw_s 120 (by decide +kernel) rfl
theorem zs_MPacker_41 : zwV "OrreryBoxModel$Packer" 41 "OrreryBoxModel$Packer" zy_MPacker_begin zb_MPacker_begin 6 (some .int) := ⟨zw_2200, zw_2202, zv_120, zw_16, zc_MPacker_begin⟩
theorem zw_2204 : (Jvm.Cond.methodLink "OrreryBoxModel$Packer" (45 : Nat) ({ cls := "OrreryBoxModel$Packer", name := "finish", desc := "(I)V" } : Jvm.MethodName)) ∈ gw := gw_t 2204 (by decide +kernel) rfl
theorem zw_2206 : (Jvm.Cond.instanceMethod ({ cls := "OrreryBoxModel$Packer", name := "finish", desc := "(I)V" } : Jvm.MethodName)) ∈ gw := gw_t 2206 (by decide +kernel) rfl
theorem zv_121 : (Jvm.Cond.selects "OrreryBoxModel$Packer" (⟨"OrreryBoxModel$Packer", "finish", "(I)V"⟩ : MethodName) ⟨"OrreryBoxModel$Packer", "finish", "(I)V"⟩) ∈ gw := gw_s 121 (by decide +kernel) rfl
theorem zs_MPacker_45 : zwV "OrreryBoxModel$Packer" 45 "OrreryBoxModel$Packer" zy_MPacker_finish zb_MPacker_finish 4 none := ⟨zw_2204, zw_2206, zv_121, zw_16, zc_MPacker_finish⟩
theorem zw_2213 : (Jvm.Cond.methodLink "OrreryBoxModel$Packer" (51 : Nat) ({ cls := "OrreryBoxModel$Packer", name := "row", desc := "(I)V" } : Jvm.MethodName)) ∈ gw := gw_t 2213 (by decide +kernel) rfl
theorem zw_2215 : (Jvm.Cond.instanceMethod ({ cls := "OrreryBoxModel$Packer", name := "row", desc := "(I)V" } : Jvm.MethodName)) ∈ gw := gw_t 2215 (by decide +kernel) rfl
theorem zv_123 : (Jvm.Cond.selects "OrreryBoxModel$Packer" (⟨"OrreryBoxModel$Packer", "row", "(I)V"⟩ : MethodName) ⟨"OrreryBoxModel$Packer", "row", "(I)V"⟩) ∈ gw := gw_s 123 (by decide +kernel) rfl
theorem zs_MPacker_51 : zwV "OrreryBoxModel$Packer" 51 "OrreryBoxModel$Packer" zy_MPacker_row zb_MPacker_row 7 none := ⟨zw_2213, zw_2215, zv_123, zw_16, zc_MPacker_row⟩
def L_MPacker_write_91 (sh : zSh) (fuel : Nat) (v0 : Nat) (v2 : Int32) (v5 : Int32) (mm : zMem) : Option (Nat × Int32 × Int32 × zMem) := match fuel with
  | 0 => none
  | fu + 1 => (if v2 ≤ v5 then some (v0, v2, v5, mm) else zoS (sh v0) 12 (fun le48 => Option.bind (F_MPacker_row sh mm v0 v5) (fun p49 => L_MPacker_write_91 sh fu v0 v2 (v5 + 1) p49)))
set_option maxHeartbeats 4000000 in
set_option maxRecDepth 100000 in
theorem lp_MPacker_write_91 {p : Program} {l : Launch} {e : Env} {s : State} {m : MethodId} {args : Array Value} {below : List Frame} {meth : Method} {c : Code} {D : va_G} {tA : Nat → ClassId} {b n : Nat} {post : Option Value → zV → Nat → Prop} {sh : zSh} (F : zF p s m args meth c zb_MPacker_write 6 "OrreryBoxModel$Packer" D tA b) : ∀ (fuel : Nat) (v0 : Nat) (v2 : Int32) (v5 : Int32) (mm : zMem) (r : Nat × Int32 × Int32 × zMem), L_MPacker_write_91 sh fuel v0 v2 v5 mm = some r → (Z p l e { frames := 5, cells := 0, slots := 0, locals := 117 } s m args below meth c D b 6 (MQ below (zQ D b post) args s 0 0 (fun q => b ≤ q)) (zW tA b sh r.2.2.2) n 0 0 109 [(0, .ref (b + (r.1))), (2, .int (r.2.1)), (5, .int (r.2.2.1))] []) → Z p l e { frames := 5, cells := 0, slots := 0, locals := 117 } s m args below meth c D b 6 (MQ below (zQ D b post) args s 0 0 (fun q => b ≤ q)) (zW tA b sh mm) n 0 0 91 [(0, .ref (b + v0)), (2, .int v2), (5, .int v5)] [] := by
  intro fuel
  induction fuel with
  | zero =>
    intro v0 v2 v5 mm r h
    cases h
  | succ fu ih =>
    intro v0 v2 v5 mm r h hx0
    rw [L_MPacker_write_91] at h
    refine zr_iload F zd_MPacker_write_91 rfl ?_
    refine zr_iload_n F zd_MPacker_write_93 rfl ?_
    refine zr_icmp_ge F 109 zd_MPacker_write_94 (by decide) (fun hb46 => ?_) (fun hb46 => ?_)
    ·
      replace h := (if_pos hb46).symm.trans h
      obtain rfl := Option.some.inj h
      refine zr_loc (L' := [(0, .ref (b + v0)), (2, .int v2), (5, .int v5)]) ⟨rfl, rfl, rfl, trivial⟩ ?_
      exact hx0 
    ·
      replace h := (if_neg hb46).symm.trans h
      refine zr_aload_n F zd_MPacker_write_97 rfl ?_
      refine zr_pcn 98 rfl ?_
      refine zr_iload F zd_MPacker_write_98 rfl ?_
      obtain ⟨le48, hs47, h⟩ := zoS_s h
      obtain ⟨p49, ep49, h⟩ := zoB_s h
      refine zr_callV0 F (k_MPacker_row l D tA b sh _ ep49) zd_MPacker_write_100 (zW_o hs47 (by decide)) rfl zs_MPacker_51 rfl zq_MPacker_row rfl rfl ⟨(Nat.le_of_ble_eq_true rfl), (Nat.le_of_ble_eq_true rfl)⟩ (Nat.le_of_ble_eq_true rfl) ⟨(Nat.le_of_ble_eq_true rfl), (Nat.le_of_ble_eq_true rfl)⟩ ?_
      refine zr_iinc (v := (v5 + 1)) F zd_MPacker_write_103 rfl rfl (by decide) ?_
      refine zr_goto F 91 zd_MPacker_write_106 (by decide) ?_
      refine zr_loc (L' := [(0, .ref (b + v0)), (2, .int v2), (5, .int (v5 + 1))]) ⟨rfl, rfl, rfl, trivial⟩ ?_
      exact ih _ _ _ _ _ h hx0
theorem zw_2231 : (Jvm.Cond.methodLink "OrreryBoxModel$Packer" (54 : Nat) ({ cls := "OrreryBoxModel$Packer", name := "pack", desc := "()V" } : Jvm.MethodName)) ∈ gw := gw_t 2231 (by decide +kernel) rfl
theorem zw_2233 : (Jvm.Cond.instanceMethod ({ cls := "OrreryBoxModel$Packer", name := "pack", desc := "()V" } : Jvm.MethodName)) ∈ gw := gw_t 2233 (by decide +kernel) rfl
theorem zv_127 : (Jvm.Cond.selects "OrreryBoxModel$Packer" (⟨"OrreryBoxModel$Packer", "pack", "()V"⟩ : MethodName) ⟨"OrreryBoxModel$Packer", "pack", "()V"⟩) ∈ gw := gw_s 127 (by decide +kernel) rfl
theorem zs_MPacker_54 : zwV "OrreryBoxModel$Packer" 54 "OrreryBoxModel$Packer" zy_MPacker_pack zb_MPacker_pack 6 none := ⟨zw_2231, zw_2233, zv_127, zw_16, zc_MPacker_pack⟩
theorem zw_2264 : (Jvm.Cond.methodLink "OrreryBoxModel$Packer" (57 : Nat) ({ cls := "OrreryBoxModel$Packer", name := "sum", desc := "()I" } : Jvm.MethodName)) ∈ gw := gw_t 2264 (by decide +kernel) rfl
theorem zw_2266 : (Jvm.Cond.instanceMethod ({ cls := "OrreryBoxModel$Packer", name := "sum", desc := "()I" } : Jvm.MethodName)) ∈ gw := gw_t 2266 (by decide +kernel) rfl
theorem zv_135 : (Jvm.Cond.selects "OrreryBoxModel$Packer" (⟨"OrreryBoxModel$Packer", "sum", "()I"⟩ : MethodName) ⟨"OrreryBoxModel$Packer", "sum", "()I"⟩) ∈ gw := gw_s 135 (by decide +kernel) rfl
theorem zs_MPacker_57 : zwV "OrreryBoxModel$Packer" 57 "OrreryBoxModel$Packer" zy_MPacker_sum zb_MPacker_sum 4 (some .int) := ⟨zw_2264, zw_2266, zv_135, zw_16, zc_MPacker_sum⟩
def F_MPacker_write (sh : zSh) (mm : zMem) (o : Nat) (x0_ : Int32) (x1_ : Int32) (x2_ : Nat) : Option (Int32 × zMem) := zoS (sh o) 12 (fun le2 => zoL (mI mm o 5 x0_) (fun mm3 => zoS (sh o) 12 (fun le5 => zoL (mR mm3 o 6 (some x2_)) (fun mm6 => zoS (sh o) 12 (fun le8 => zoL (mI mm6 o 3 0) (fun mm9 => zoS (sh o) 12 (fun le11 => Option.bind (F_MPacker_put4 sh mm9 o (-1991225785)) (fun p12 => zoS (sh o) 12 (fun le14 => Option.bind (F_MPacker_put4 sh p12 o 218765834) (fun p15 => zoS (sh o) 12 (fun le17 => Option.bind (F_MPacker_begin sh p15 o 73 72 68 82) (fun p18 => zoS (sh o) 12 (fun le20 => Option.bind (F_MPacker_put4 sh (p18.2) o x0_) (fun p21 => zoS (sh o) 12 (fun le23 => Option.bind (F_MPacker_put4 sh p21 o x1_) (fun p24 => zoS (sh o) 12 (fun le26 => Option.bind (F_MPacker_put sh p24 o 8) (fun p27 => zoS (sh o) 12 (fun le29 => Option.bind (F_MPacker_put sh p27 o 2) (fun p30 => zoS (sh o) 12 (fun le32 => Option.bind (F_MPacker_put sh p30 o 0) (fun p33 => zoS (sh o) 12 (fun le35 => Option.bind (F_MPacker_put sh p33 o 0) (fun p36 => zoS (sh o) 12 (fun le38 => Option.bind (F_MPacker_put sh p36 o 0) (fun p39 => zoS (sh o) 12 (fun le41 => Option.bind (F_MPacker_finish sh p39 o (p18.1)) (fun p42 => zoS (sh o) 12 (fun le44 => zoL (mI p42 o 1 0) (fun mm45 => Option.bind (L_MPacker_write_91 sh zfuel o x1_ 0 mm45) (fun q50 => zoS (sh (q50.1)) 12 (fun le52 => Option.bind (F_MPacker_begin sh (q50.2.2.2) (q50.1) 73 68 65 84) (fun p53 => zoS (sh (q50.1)) 12 (fun le55 => Option.bind (F_MPacker_put sh (p53.2) (q50.1) 120) (fun p56 => zoS (sh (q50.1)) 12 (fun le58 => Option.bind (F_MPacker_put sh p56 (q50.1) 1) (fun p59 => zoS (sh (q50.1)) 12 (fun le61 => Option.bind (F_MPacker_pack sh p59 (q50.1)) (fun p62 => zoS (sh (q50.1)) 12 (fun le64 => Option.bind (F_MPacker_sum sh p62 (q50.1)) (fun p65 => zoS (sh (q50.1)) 12 (fun le67 => Option.bind (F_MPacker_put4 sh (p65.2) (q50.1) (p65.1)) (fun p68 => zoS (sh (q50.1)) 12 (fun le70 => Option.bind (F_MPacker_finish sh p68 (q50.1) (p53.1)) (fun p71 => zoS (sh (q50.1)) 12 (fun le73 => Option.bind (F_MPacker_begin sh p71 (q50.1) 73 69 78 68) (fun p74 => zoS (sh (q50.1)) 12 (fun le76 => Option.bind (F_MPacker_finish sh (p74.2) (q50.1) (p74.1)) (fun p77 => zoS (sh (q50.1)) 12 (fun le79 => some ((p77.1 (q50.1) 3), p77)))))))))))))))))))))))))))))))))))))))))))))))))))
set_option maxHeartbeats 4000000 in
set_option maxRecDepth 100000 in
theorem k_MPacker_write (l : Launch) (D : va_G) (tA : Nat → ClassId) (b : Nat) (sh : zSh) (n : Nat) {mm : zMem} {o : Nat} {x0_ : Int32} {x1_ : Int32} {x2_ : Nat} {r : (Int32 × zMem)} (h : F_MPacker_write sh mm o x0_ x1_ x2_ = some r) : zM l D tA b zy_MPacker_write zb_MPacker_write 6 (some .int) 5 117 0 0 [.ref (b + o), .int x0_, .int x1_, .ref (b + x2_)] (zW tA b sh mm) n (zE (some (.int (r.1))) (zW tA b sh r.2) n) := by
  unfold F_MPacker_write at h
  refine zM_of (own := "OrreryBoxModel$Packer") (plainFor_of_name (by decide)) rfl (Nat.le_of_ble_eq_true rfl) (fun p e s m below meth c F hr hin hH => ?_)
  refine zr_aload_n F zd_MPacker_write_0 rfl ?_
  refine zr_iload_n F zd_MPacker_write_1 rfl ?_
  obtain ⟨le2, hs1, h⟩ := zoS_s h
  refine zr_put F 12 5 zd_MPacker_write_2 (zW_o hs1 (by decide)) rfl (by decide) zw_1553 rfl rfl rfl rfl (by exact (Nat.le_of_ble_eq_true rfl)) ?_
  obtain ⟨mm3, emm3, h⟩ := zoL_s h
  refine zr_norm (zW tA b sh mm3) _ (by rw [emm3]; exact zW_pI (v := x0_) hs1 (by decide) (zf_I_12_5 b _ _ _)) rfl ?_
  refine zr_aload_n F zd_MPacker_write_5 rfl ?_
  refine zr_aload_n F zd_MPacker_write_6 rfl ?_
  obtain ⟨le5, hs4, h⟩ := zoS_s h
  refine zr_put F 12 6 zd_MPacker_write_7 (zW_o hs4 (by decide)) rfl (by decide) zw_1554 rfl rfl rfl rfl (by exact (Nat.le_of_ble_eq_true rfl)) ?_
  obtain ⟨mm6, emm6, h⟩ := zoL_s h
  refine zr_norm (zW tA b sh mm6) _ (by rw [emm6]; exact zW_pR (v := (some x2_)) hs4 (by decide) (zf_R_12_6 b _ _ _)) rfl ?_
  refine zr_aload_n F zd_MPacker_write_10 rfl ?_
  refine zr_pcn 11 rfl ?_
  refine zr_iconstv (v := 0) F zd_MPacker_write_11 (by decide) ?_
  obtain ⟨le8, hs7, h⟩ := zoS_s h
  refine zr_put F 12 3 zd_MPacker_write_12 (zW_o hs7 (by decide)) rfl (by decide) zw_1550 rfl rfl rfl rfl (by exact (Nat.le_of_ble_eq_true rfl)) ?_
  obtain ⟨mm9, emm9, h⟩ := zoL_s h
  refine zr_norm (zW tA b sh mm9) _ (by rw [emm9]; exact zW_pI (v := 0) hs7 (by decide) (zf_I_12_3 b _ _ _)) rfl ?_
  refine zr_aload_n F zd_MPacker_write_15 rfl ?_
  refine zr_ldc F zd_MPacker_write_16 zw_2190 ?_
  obtain ⟨le11, hs10, h⟩ := zoS_s h
  obtain ⟨p12, ep12, h⟩ := zoB_s h
  refine zr_callV0 F (k_MPacker_put4 l D tA b sh _ ep12) zd_MPacker_write_18 (zW_o hs10 (by decide)) rfl zs_MPacker_26 rfl zq_MPacker_put4 rfl rfl ⟨(Nat.le_of_ble_eq_true rfl), (Nat.le_of_ble_eq_true rfl)⟩ (Nat.le_of_ble_eq_true rfl) ⟨(Nat.le_of_ble_eq_true rfl), (Nat.le_of_ble_eq_true rfl)⟩ ?_
  refine zr_aload_n F zd_MPacker_write_21 rfl ?_
  refine zr_ldc F zd_MPacker_write_22 zw_2199 ?_
  obtain ⟨le14, hs13, h⟩ := zoS_s h
  obtain ⟨p15, ep15, h⟩ := zoB_s h
  refine zr_callV0 F (k_MPacker_put4 l D tA b sh _ ep15) zd_MPacker_write_24 (zW_o hs13 (by decide)) rfl zs_MPacker_26 rfl zq_MPacker_put4 rfl rfl ⟨(Nat.le_of_ble_eq_true rfl), (Nat.le_of_ble_eq_true rfl)⟩ (Nat.le_of_ble_eq_true rfl) ⟨(Nat.le_of_ble_eq_true rfl), (Nat.le_of_ble_eq_true rfl)⟩ ?_
  refine zr_pcn 27 rfl ?_
  refine zr_aload_n F zd_MPacker_write_27 rfl ?_
  refine zr_bipushv (v := 73) F zd_MPacker_write_28 (by decide) ?_
  refine zr_bipushv (v := 72) F zd_MPacker_write_30 (by decide) ?_
  refine zr_bipushv (v := 68) F zd_MPacker_write_32 (by decide) ?_
  refine zr_bipushv (v := 82) F zd_MPacker_write_34 (by decide) ?_
  obtain ⟨le17, hs16, h⟩ := zoS_s h
  obtain ⟨p18, ep18, h⟩ := zoB_s h
  refine zr_callV1 F (k_MPacker_begin l D tA b sh _ ep18) zd_MPacker_write_36 (zW_o hs16 (by decide)) rfl zs_MPacker_41 rfl zq_MPacker_begin rfl rfl ⟨(Nat.le_of_ble_eq_true rfl), (Nat.le_of_ble_eq_true rfl)⟩ (Nat.le_of_ble_eq_true rfl) ⟨(Nat.le_of_ble_eq_true rfl), (Nat.le_of_ble_eq_true rfl)⟩ ?_
  refine zr_istore F zd_MPacker_write_39 (by decide) ?_
  refine zr_aload_n F zd_MPacker_write_41 rfl ?_
  refine zr_pcn 42 rfl ?_
  refine zr_iload_n F zd_MPacker_write_42 rfl ?_
  obtain ⟨le20, hs19, h⟩ := zoS_s h
  obtain ⟨p21, ep21, h⟩ := zoB_s h
  refine zr_callV0 F (k_MPacker_put4 l D tA b sh _ ep21) zd_MPacker_write_43 (zW_o hs19 (by decide)) rfl zs_MPacker_26 rfl zq_MPacker_put4 rfl rfl ⟨(Nat.le_of_ble_eq_true rfl), (Nat.le_of_ble_eq_true rfl)⟩ (Nat.le_of_ble_eq_true rfl) ⟨(Nat.le_of_ble_eq_true rfl), (Nat.le_of_ble_eq_true rfl)⟩ ?_
  refine zr_aload_n F zd_MPacker_write_46 rfl ?_
  refine zr_iload_n F zd_MPacker_write_47 rfl ?_
  obtain ⟨le23, hs22, h⟩ := zoS_s h
  obtain ⟨p24, ep24, h⟩ := zoB_s h
  refine zr_callV0 F (k_MPacker_put4 l D tA b sh _ ep24) zd_MPacker_write_48 (zW_o hs22 (by decide)) rfl zs_MPacker_26 rfl zq_MPacker_put4 rfl rfl ⟨(Nat.le_of_ble_eq_true rfl), (Nat.le_of_ble_eq_true rfl)⟩ (Nat.le_of_ble_eq_true rfl) ⟨(Nat.le_of_ble_eq_true rfl), (Nat.le_of_ble_eq_true rfl)⟩ ?_
  refine zr_aload_n F zd_MPacker_write_51 rfl ?_
  refine zr_bipushv (v := 8) F zd_MPacker_write_52 (by decide) ?_
  obtain ⟨le26, hs25, h⟩ := zoS_s h
  obtain ⟨p27, ep27, h⟩ := zoB_s h
  refine zr_callV0 F (k_MPacker_put l D tA b sh _ ep27) zd_MPacker_write_54 (zW_o hs25 (by decide)) rfl zs_MPacker_21 rfl zq_MPacker_put rfl rfl ⟨(Nat.le_of_ble_eq_true rfl), (Nat.le_of_ble_eq_true rfl)⟩ (Nat.le_of_ble_eq_true rfl) ⟨(Nat.le_of_ble_eq_true rfl), (Nat.le_of_ble_eq_true rfl)⟩ ?_
  refine zr_pcn 57 rfl ?_
  refine zr_aload_n F zd_MPacker_write_57 rfl ?_
  refine zr_iconstv (v := 2) F zd_MPacker_write_58 (by decide) ?_
  obtain ⟨le29, hs28, h⟩ := zoS_s h
  obtain ⟨p30, ep30, h⟩ := zoB_s h
  refine zr_callV0 F (k_MPacker_put l D tA b sh _ ep30) zd_MPacker_write_59 (zW_o hs28 (by decide)) rfl zs_MPacker_21 rfl zq_MPacker_put rfl rfl ⟨(Nat.le_of_ble_eq_true rfl), (Nat.le_of_ble_eq_true rfl)⟩ (Nat.le_of_ble_eq_true rfl) ⟨(Nat.le_of_ble_eq_true rfl), (Nat.le_of_ble_eq_true rfl)⟩ ?_
  refine zr_aload_n F zd_MPacker_write_62 rfl ?_
  refine zr_iconstv (v := 0) F zd_MPacker_write_63 (by decide) ?_
  obtain ⟨le32, hs31, h⟩ := zoS_s h
  obtain ⟨p33, ep33, h⟩ := zoB_s h
  refine zr_callV0 F (k_MPacker_put l D tA b sh _ ep33) zd_MPacker_write_64 (zW_o hs31 (by decide)) rfl zs_MPacker_21 rfl zq_MPacker_put rfl rfl ⟨(Nat.le_of_ble_eq_true rfl), (Nat.le_of_ble_eq_true rfl)⟩ (Nat.le_of_ble_eq_true rfl) ⟨(Nat.le_of_ble_eq_true rfl), (Nat.le_of_ble_eq_true rfl)⟩ ?_
  refine zr_aload_n F zd_MPacker_write_67 rfl ?_
  refine zr_iconstv (v := 0) F zd_MPacker_write_68 (by decide) ?_
  refine zr_pcn 69 rfl ?_
  obtain ⟨le35, hs34, h⟩ := zoS_s h
  obtain ⟨p36, ep36, h⟩ := zoB_s h
  refine zr_callV0 F (k_MPacker_put l D tA b sh _ ep36) zd_MPacker_write_69 (zW_o hs34 (by decide)) rfl zs_MPacker_21 rfl zq_MPacker_put rfl rfl ⟨(Nat.le_of_ble_eq_true rfl), (Nat.le_of_ble_eq_true rfl)⟩ (Nat.le_of_ble_eq_true rfl) ⟨(Nat.le_of_ble_eq_true rfl), (Nat.le_of_ble_eq_true rfl)⟩ ?_
  refine zr_aload_n F zd_MPacker_write_72 rfl ?_
  refine zr_iconstv (v := 0) F zd_MPacker_write_73 (by decide) ?_
  obtain ⟨le38, hs37, h⟩ := zoS_s h
  obtain ⟨p39, ep39, h⟩ := zoB_s h
  refine zr_callV0 F (k_MPacker_put l D tA b sh _ ep39) zd_MPacker_write_74 (zW_o hs37 (by decide)) rfl zs_MPacker_21 rfl zq_MPacker_put rfl rfl ⟨(Nat.le_of_ble_eq_true rfl), (Nat.le_of_ble_eq_true rfl)⟩ (Nat.le_of_ble_eq_true rfl) ⟨(Nat.le_of_ble_eq_true rfl), (Nat.le_of_ble_eq_true rfl)⟩ ?_
  refine zr_aload_n F zd_MPacker_write_77 rfl ?_
  refine zr_iload F zd_MPacker_write_78 rfl ?_
  obtain ⟨le41, hs40, h⟩ := zoS_s h
  obtain ⟨p42, ep42, h⟩ := zoB_s h
  refine zr_callV0 F (k_MPacker_finish l D tA b sh _ ep42) zd_MPacker_write_80 (zW_o hs40 (by decide)) rfl zs_MPacker_45 rfl zq_MPacker_finish rfl rfl ⟨(Nat.le_of_ble_eq_true rfl), (Nat.le_of_ble_eq_true rfl)⟩ (Nat.le_of_ble_eq_true rfl) ⟨(Nat.le_of_ble_eq_true rfl), (Nat.le_of_ble_eq_true rfl)⟩ ?_
  refine zr_aload_n F zd_MPacker_write_83 rfl ?_
  refine zr_pcn 84 rfl ?_
  refine zr_iconstv (v := 0) F zd_MPacker_write_84 (by decide) ?_
  obtain ⟨le44, hs43, h⟩ := zoS_s h
  refine zr_put F 12 1 zd_MPacker_write_85 (zW_o hs43 (by decide)) rfl (by decide) zw_1547 rfl rfl rfl rfl (by exact (Nat.le_of_ble_eq_true rfl)) ?_
  obtain ⟨mm45, emm45, h⟩ := zoL_s h
  refine zr_norm (zW tA b sh mm45) _ (by rw [emm45]; exact zW_pI (v := 0) hs43 (by decide) (zf_I_12_1 b _ _ _)) rfl ?_
  refine zr_iconstv (v := 0) F zd_MPacker_write_88 (by decide) ?_
  refine zr_istore F zd_MPacker_write_89 (by decide) ?_
  obtain ⟨q50, eq50, h⟩ := zoB_s h
  refine zr_loc (L' := [(0, .ref (b + o)), (2, .int x1_), (5, .int 0)]) ⟨rfl, rfl, rfl, trivial⟩ ?_
  refine lp_MPacker_write_91 F _ _ _ _ _ _ eq50 ?_
  ·
    refine zr_aload_n F zd_MPacker_write_109 rfl ?_
    refine zr_bipushv (v := 73) F zd_MPacker_write_110 (by decide) ?_
    refine zr_bipushv (v := 68) F zd_MPacker_write_112 (by decide) ?_
    refine zr_bipushv (v := 65) F zd_MPacker_write_114 (by decide) ?_
    refine zr_pcn 116 rfl ?_
    refine zr_bipushv (v := 84) F zd_MPacker_write_116 (by decide) ?_
    obtain ⟨le52, hs51, h⟩ := zoS_s h
    obtain ⟨p53, ep53, h⟩ := zoB_s h
    refine zr_callV1 F (k_MPacker_begin l D tA b sh _ ep53) zd_MPacker_write_118 (zW_o hs51 (by decide)) rfl zs_MPacker_41 rfl zq_MPacker_begin rfl rfl ⟨(Nat.le_of_ble_eq_true rfl), (Nat.le_of_ble_eq_true rfl)⟩ (Nat.le_of_ble_eq_true rfl) ⟨(Nat.le_of_ble_eq_true rfl), (Nat.le_of_ble_eq_true rfl)⟩ ?_
    refine zr_istore F zd_MPacker_write_121 (by decide) ?_
    refine zr_loc (L' := [(0, .ref (b + (q50.1))), (4, .int (p53.1))]) ⟨rfl, rfl, trivial⟩ ?_
    refine zr_aload_n F zd_MPacker_write_123 rfl ?_
    refine zr_bipushv (v := 120) F zd_MPacker_write_124 (by decide) ?_
    obtain ⟨le55, hs54, h⟩ := zoS_s h
    obtain ⟨p56, ep56, h⟩ := zoB_s h
    refine zr_callV0 F (k_MPacker_put l D tA b sh _ ep56) zd_MPacker_write_126 (zW_o hs54 (by decide)) rfl zs_MPacker_21 rfl zq_MPacker_put rfl rfl ⟨(Nat.le_of_ble_eq_true rfl), (Nat.le_of_ble_eq_true rfl)⟩ (Nat.le_of_ble_eq_true rfl) ⟨(Nat.le_of_ble_eq_true rfl), (Nat.le_of_ble_eq_true rfl)⟩ ?_
    refine zr_aload_n F zd_MPacker_write_129 rfl ?_
    refine zr_iconstv (v := 1) F zd_MPacker_write_130 (by decide) ?_
    refine zr_pcn 131 rfl ?_
    obtain ⟨le58, hs57, h⟩ := zoS_s h
    obtain ⟨p59, ep59, h⟩ := zoB_s h
    refine zr_callV0 F (k_MPacker_put l D tA b sh _ ep59) zd_MPacker_write_131 (zW_o hs57 (by decide)) rfl zs_MPacker_21 rfl zq_MPacker_put rfl rfl ⟨(Nat.le_of_ble_eq_true rfl), (Nat.le_of_ble_eq_true rfl)⟩ (Nat.le_of_ble_eq_true rfl) ⟨(Nat.le_of_ble_eq_true rfl), (Nat.le_of_ble_eq_true rfl)⟩ ?_
    refine zr_aload_n F zd_MPacker_write_134 rfl ?_
    obtain ⟨le61, hs60, h⟩ := zoS_s h
    obtain ⟨p62, ep62, h⟩ := zoB_s h
    refine zr_callV0 F (k_MPacker_pack l D tA b sh _ ep62) zd_MPacker_write_135 (zW_o hs60 (by decide)) rfl zs_MPacker_54 rfl zq_MPacker_pack rfl rfl ⟨(Nat.le_of_ble_eq_true rfl), (Nat.le_of_ble_eq_true rfl)⟩ (Nat.le_of_ble_eq_true rfl) ⟨(Nat.le_of_ble_eq_true rfl), (Nat.le_of_ble_eq_true rfl)⟩ ?_
    refine zr_aload_n F zd_MPacker_write_138 rfl ?_
    refine zr_aload_n F zd_MPacker_write_139 rfl ?_
    obtain ⟨le64, hs63, h⟩ := zoS_s h
    obtain ⟨p65, ep65, h⟩ := zoB_s h
    refine zr_callV1 F (k_MPacker_sum l D tA b sh _ ep65) zd_MPacker_write_140 (zW_o hs63 (by decide)) rfl zs_MPacker_57 rfl zq_MPacker_sum rfl rfl ⟨(Nat.le_of_ble_eq_true rfl), (Nat.le_of_ble_eq_true rfl)⟩ (Nat.le_of_ble_eq_true rfl) ⟨(Nat.le_of_ble_eq_true rfl), (Nat.le_of_ble_eq_true rfl)⟩ ?_
    obtain ⟨le67, hs66, h⟩ := zoS_s h
    obtain ⟨p68, ep68, h⟩ := zoB_s h
    refine zr_callV0 F (k_MPacker_put4 l D tA b sh _ ep68) zd_MPacker_write_143 (zW_o hs66 (by decide)) rfl zs_MPacker_26 rfl zq_MPacker_put4 rfl rfl ⟨(Nat.le_of_ble_eq_true rfl), (Nat.le_of_ble_eq_true rfl)⟩ (Nat.le_of_ble_eq_true rfl) ⟨(Nat.le_of_ble_eq_true rfl), (Nat.le_of_ble_eq_true rfl)⟩ ?_
    refine zr_aload_n F zd_MPacker_write_146 rfl ?_
    refine zr_pcn 147 rfl ?_
    refine zr_iload F zd_MPacker_write_147 rfl ?_
    obtain ⟨le70, hs69, h⟩ := zoS_s h
    obtain ⟨p71, ep71, h⟩ := zoB_s h
    refine zr_callV0 F (k_MPacker_finish l D tA b sh _ ep71) zd_MPacker_write_149 (zW_o hs69 (by decide)) rfl zs_MPacker_45 rfl zq_MPacker_finish rfl rfl ⟨(Nat.le_of_ble_eq_true rfl), (Nat.le_of_ble_eq_true rfl)⟩ (Nat.le_of_ble_eq_true rfl) ⟨(Nat.le_of_ble_eq_true rfl), (Nat.le_of_ble_eq_true rfl)⟩ ?_
    refine zr_aload_n F zd_MPacker_write_152 rfl ?_
    refine zr_aload_n F zd_MPacker_write_153 rfl ?_
    refine zr_bipushv (v := 73) F zd_MPacker_write_154 (by decide) ?_
    refine zr_bipushv (v := 69) F zd_MPacker_write_156 (by decide) ?_
    refine zr_bipushv (v := 78) F zd_MPacker_write_158 (by decide) ?_
    refine zr_bipushv (v := 68) F zd_MPacker_write_160 (by decide) ?_
    refine zr_pcn 162 rfl ?_
    obtain ⟨le73, hs72, h⟩ := zoS_s h
    obtain ⟨p74, ep74, h⟩ := zoB_s h
    refine zr_callV1 F (k_MPacker_begin l D tA b sh _ ep74) zd_MPacker_write_162 (zW_o hs72 (by decide)) rfl zs_MPacker_41 rfl zq_MPacker_begin rfl rfl ⟨(Nat.le_of_ble_eq_true rfl), (Nat.le_of_ble_eq_true rfl)⟩ (Nat.le_of_ble_eq_true rfl) ⟨(Nat.le_of_ble_eq_true rfl), (Nat.le_of_ble_eq_true rfl)⟩ ?_
    obtain ⟨le76, hs75, h⟩ := zoS_s h
    obtain ⟨p77, ep77, h⟩ := zoB_s h
    refine zr_callV0 F (k_MPacker_finish l D tA b sh _ ep77) zd_MPacker_write_165 (zW_o hs75 (by decide)) rfl zs_MPacker_45 rfl zq_MPacker_finish rfl rfl ⟨(Nat.le_of_ble_eq_true rfl), (Nat.le_of_ble_eq_true rfl)⟩ (Nat.le_of_ble_eq_true rfl) ⟨(Nat.le_of_ble_eq_true rfl), (Nat.le_of_ble_eq_true rfl)⟩ ?_
    refine zr_aload_n F zd_MPacker_write_168 rfl ?_
    obtain ⟨le79, hs78, h⟩ := zoS_s h
    refine zr_get F 12 3 zd_MPacker_write_169 (zW_o hs78 (by decide)) rfl (by decide) zw_1550 rfl (by rfl) ?_
    obtain rfl := Option.some.inj h
    exact zr_iret F hr zd_MPacker_write_172 (Nat.le_of_ble_eq_true rfl) (Nat.le_of_ble_eq_true rfl) ⟨rfl, rfl, rfl⟩
abbrev zb_MPainter_texel : ByteArray := prog_16_method_32_code
def zy_MPainter_texel : MethodName := ⟨"OrreryBoxModel$Painter", "texel", "(IIJJI)J"⟩
theorem zc_MPainter_texel : Cond.code zy_MPainter_texel zb_MPainter_texel 11 (some .long) ∈ gw := gw_t 2146 (by decide +kernel) rfl
theorem zq_MPainter_texel : zy_MPainter_texel.cls ≠ "java/lang/invoke/MethodHandle" ∧ zy_MPainter_texel.cls ≠ "java/lang/invoke/VarHandle" ∧ (parseMethodDescriptor zy_MPainter_texel.desc).map (fun d => d.parameters.length) = some 5 := by decide +kernel
theorem zd_MPainter_texel_0 : decode zb_MPainter_texel 0 = .ok (.aload_n 0, 1) := by decide +kernel
theorem zd_MPainter_texel_1 : decode zb_MPainter_texel 1 = .ok (.getfield 129, 3) := by decide +kernel
theorem zd_MPainter_texel_4 : decode zb_MPainter_texel 4 = .ok (.getfield 308, 3) := by decide +kernel
theorem zd_MPainter_texel_7 : decode zb_MPainter_texel 7 = .ok (.iload_n 1, 1) := by decide +kernel
theorem zd_MPainter_texel_8 : decode zb_MPainter_texel 8 = .ok (.iaload, 1) := by decide +kernel
theorem zd_MPainter_texel_9 : decode zb_MPainter_texel 9 = .ok (.iload_n 2, 1) := by decide +kernel
theorem zd_MPainter_texel_10 : decode zb_MPainter_texel 10 = .ok (.ishr, 1) := by decide +kernel
theorem zd_MPainter_texel_11 : decode zb_MPainter_texel 11 = .ok (.istore 8, 2) := by decide +kernel
theorem zd_MPainter_texel_13 : decode zb_MPainter_texel 13 = .ok (.lload_n 3, 1) := by decide +kernel
theorem zd_MPainter_texel_14 : decode zb_MPainter_texel 14 = .ok (.iload 8, 2) := by decide +kernel
theorem zd_MPainter_texel_16 : decode zb_MPainter_texel 16 = .ok (.aload_n 0, 1) := by decide +kernel
theorem zd_MPainter_texel_17 : decode zb_MPainter_texel 17 = .ok (.getfield 129, 3) := by decide +kernel
theorem zd_MPainter_texel_20 : decode zb_MPainter_texel 20 = .ok (.getfield 312, 3) := by decide +kernel
theorem zd_MPainter_texel_23 : decode zb_MPainter_texel 23 = .ok (.iload_n 1, 1) := by decide +kernel
theorem zd_MPainter_texel_24 : decode zb_MPainter_texel 24 = .ok (.iaload, 1) := by decide +kernel
theorem zd_MPainter_texel_25 : decode zb_MPainter_texel 25 = .ok (.invokestatic 315, 3) := by decide +kernel
theorem zd_MPainter_texel_28 : decode zb_MPainter_texel 28 = .ok (.istore 9, 2) := by decide +kernel
theorem zd_MPainter_texel_30 : decode zb_MPainter_texel 30 = .ok (.lload 5, 2) := by decide +kernel
theorem zd_MPainter_texel_32 : decode zb_MPainter_texel 32 = .ok (.iload 8, 2) := by decide +kernel
theorem zd_MPainter_texel_34 : decode zb_MPainter_texel 34 = .ok (.aload_n 0, 1) := by decide +kernel
theorem zd_MPainter_texel_35 : decode zb_MPainter_texel 35 = .ok (.getfield 129, 3) := by decide +kernel
theorem zd_MPainter_texel_38 : decode zb_MPainter_texel 38 = .ok (.getfield 312, 3) := by decide +kernel
theorem zd_MPainter_texel_41 : decode zb_MPainter_texel 41 = .ok (.iload_n 1, 1) := by decide +kernel
theorem zd_MPainter_texel_42 : decode zb_MPainter_texel 42 = .ok (.iaload, 1) := by decide +kernel
theorem zd_MPainter_texel_43 : decode zb_MPainter_texel 43 = .ok (.invokestatic 315, 3) := by decide +kernel
theorem zd_MPainter_texel_46 : decode zb_MPainter_texel 46 = .ok (.istore 10, 2) := by decide +kernel
theorem zd_MPainter_texel_48 : decode zb_MPainter_texel 48 = .ok (.aload_n 0, 1) := by decide +kernel
theorem zd_MPainter_texel_49 : decode zb_MPainter_texel 49 = .ok (.getfield 129, 3) := by decide +kernel
theorem zd_MPainter_texel_52 : decode zb_MPainter_texel 52 = .ok (.getfield 319, 3) := by decide +kernel
theorem zd_MPainter_texel_55 : decode zb_MPainter_texel 55 = .ok (.aload_n 0, 1) := by decide +kernel
theorem zd_MPainter_texel_56 : decode zb_MPainter_texel 56 = .ok (.getfield 129, 3) := by decide +kernel
theorem zd_MPainter_texel_59 : decode zb_MPainter_texel 59 = .ok (.iload_n 1, 1) := by decide +kernel
theorem zd_MPainter_texel_60 : decode zb_MPainter_texel 60 = .ok (.iload_n 2, 1) := by decide +kernel
theorem zd_MPainter_texel_61 : decode zb_MPainter_texel 61 = .ok (.invokevirtual 322, 3) := by decide +kernel
theorem zd_MPainter_texel_64 : decode zb_MPainter_texel 64 = .ok (.iconst 3, 1) := by decide +kernel
theorem zd_MPainter_texel_65 : decode zb_MPainter_texel 65 = .ok (.iload 8, 2) := by decide +kernel
theorem zd_MPainter_texel_67 : decode zb_MPainter_texel 67 = .ok (.iload 10, 2) := by decide +kernel
theorem zd_MPainter_texel_69 : decode zb_MPainter_texel 69 = .ok (.imul, 1) := by decide +kernel
theorem zd_MPainter_texel_70 : decode zb_MPainter_texel 70 = .ok (.iload 9, 2) := by decide +kernel
theorem zd_MPainter_texel_72 : decode zb_MPainter_texel 72 = .ok (.iadd, 1) := by decide +kernel
theorem zd_MPainter_texel_73 : decode zb_MPainter_texel 73 = .ok (.imul, 1) := by decide +kernel
theorem zd_MPainter_texel_74 : decode zb_MPainter_texel 74 = .ok (.iadd, 1) := by decide +kernel
theorem zd_MPainter_texel_75 : decode zb_MPainter_texel 75 = .ok (.iload 7, 2) := by decide +kernel
theorem zd_MPainter_texel_77 : decode zb_MPainter_texel 77 = .ok (.iadd, 1) := by decide +kernel
theorem zd_MPainter_texel_78 : decode zb_MPainter_texel 78 = .ok (.iaload, 1) := by decide +kernel
theorem zd_MPainter_texel_79 : decode zb_MPainter_texel 79 = .ok (.i2l, 1) := by decide +kernel
theorem zd_MPainter_texel_80 : decode zb_MPainter_texel 80 = .ok (.lreturn, 1) := by decide +kernel
theorem zw_1336 : (Jvm.Cond.fieldLink "OrreryBoxModel$Painter" (312 : Nat) "OrreryBoxModel$Scene" "wrap" "[I") ∈ gw := gw_t 1336 (by decide +kernel) rfl
theorem zw_2147 : (Jvm.Cond.methodLink "OrreryBoxModel$Painter" (315 : Nat) ({ cls := "OrreryBoxModel$Painter", name := "wrapped", desc := "(JII)I" } : Jvm.MethodName)) ∈ gw := gw_t 2147 (by decide +kernel) rfl
theorem zw_2148 : (Jvm.Cond.static ({ cls := "OrreryBoxModel$Painter", name := "wrapped", desc := "(JII)I" } : Jvm.MethodName)) ∈ gw := gw_t 2148 (by decide +kernel) rfl
theorem zs_MPainter_315 : zwS "OrreryBoxModel$Painter" 315 zy_MPainter_wrapped zb_MPainter_wrapped 5 (some .int) := ⟨zw_2147, zw_2148, zw_17, zc_MPainter_wrapped⟩
theorem zw_1342 : (Jvm.Cond.fieldLink "OrreryBoxModel$Painter" (319 : Nat) "OrreryBoxModel$Scene" "texel" "[I") ∈ gw := gw_t 1342 (by decide +kernel) rfl
theorem zw_2151 : (Jvm.Cond.methodLink "OrreryBoxModel$Painter" (322 : Nat) ({ cls := "OrreryBoxModel$Scene", name := "levelAt", desc := "(II)I" } : Jvm.MethodName)) ∈ gw := gw_t 2151 (by decide +kernel) rfl
theorem zs_MPainter_322 : zwV "OrreryBoxModel$Painter" 322 "OrreryBoxModel$Scene" zy_MScene_levelAt zb_MScene_levelAt 6 (some .int) := ⟨zw_2151, zw_1912, zw_1913, zw_14, zc_MScene_levelAt⟩
def F_MPainter_texel (sh : zSh) (mm : zMem) (o : Nat) (x0_ : Int32) (x1_ : Int32) (x2_ : Int64) (x3_ : Int64) (x4_ : Int32) : Option (Int64 × zMem) := zoS (sh o) 13 (fun le2 => Option.bind (mm.2.2 o 5) (fun a3 => zoS (sh a3) 15 (fun le5 => Option.bind (mm.2.2 a3 5) (fun a6 => zoS (sh a6) 100 (fun le8 => if (x0_ : Int32) < 0 ∨ le8 ≤ (x0_ : Int32).toNatClampNeg then none else zoL ((mm.1 a6 (x0_ : Int32).toNatClampNeg) >>> (x1_ &&& 31)) (fun x10 => zoS (sh o) 13 (fun le12 => Option.bind (mm.2.2 o 5) (fun a13 => zoS (sh a13) 15 (fun le15 => Option.bind (mm.2.2 a13 6) (fun a16 => zoS (sh a16) 100 (fun le18 => if (x0_ : Int32) < 0 ∨ le18 ≤ (x0_ : Int32).toNatClampNeg then none else zoL (mm.1 a16 (x0_ : Int32).toNatClampNeg) (fun x20 => Option.bind (F_MPainter_wrapped sh mm x2_ x10 x20) (fun p21 => zoS (sh o) 13 (fun le23 => Option.bind ((p21.2).2.2 o 5) (fun a24 => zoS (sh a24) 15 (fun le26 => Option.bind ((p21.2).2.2 a24 6) (fun a27 => zoS (sh a27) 100 (fun le29 => if (x0_ : Int32) < 0 ∨ le29 ≤ (x0_ : Int32).toNatClampNeg then none else zoL ((p21.2).1 a27 (x0_ : Int32).toNatClampNeg) (fun x31 => Option.bind (F_MPainter_wrapped sh (p21.2) x3_ x10 x31) (fun p32 => zoS (sh o) 13 (fun le34 => Option.bind ((p32.2).2.2 o 5) (fun a35 => zoS (sh a35) 15 (fun le37 => Option.bind ((p32.2).2.2 a35 8) (fun a38 => zoS (sh o) 13 (fun le40 => Option.bind ((p32.2).2.2 o 5) (fun a41 => zoS (sh a41) 15 (fun le43 => Option.bind (F_MScene_levelAt sh (p32.2) a41 x0_ x1_) (fun p44 => zoL ((p44.1 + (3 * ((x10 * p32.1) + p21.1))) + x4_) (fun i45 => zoS (sh a38) 100 (fun le47 => if (i45 : Int32) < 0 ∨ le47 ≤ (i45 : Int32).toNatClampNeg then none else some (((((p44.2).1 a38 (i45 : Int32).toNatClampNeg) : Int32).toInt64), p44.2)))))))))))))))))))))))))))))))
set_option maxHeartbeats 4000000 in
set_option maxRecDepth 100000 in
theorem k_MPainter_texel (l : Launch) (D : va_G) (tA : Nat → ClassId) (b : Nat) (sh : zSh) (n : Nat) {mm : zMem} {o : Nat} {x0_ : Int32} {x1_ : Int32} {x2_ : Int64} {x3_ : Int64} {x4_ : Int32} {r : (Int64 × zMem)} (h : F_MPainter_texel sh mm o x0_ x1_ x2_ x3_ x4_ = some r) : zM l D tA b zy_MPainter_texel zb_MPainter_texel 11 (some .long) 2 49 0 0 [.ref (b + o), .int x0_, .int x1_, .long x2_, .long x3_, .int x4_] (zW tA b sh mm) n (zE (some (.long (r.1))) (zW tA b sh r.2) n) := by
  unfold F_MPainter_texel at h
  refine zM_of (own := "OrreryBoxModel$Painter") (plainFor_of_name (by decide)) rfl (Nat.le_of_ble_eq_true rfl) (fun p e s m below meth c F hr hin hH => ?_)
  refine zr_aload_n F zd_MPainter_texel_0 rfl ?_
  obtain ⟨le2, hs1, h⟩ := zoS_s h
  obtain ⟨a3, ea3, h⟩ := zoB_s h
  refine zr_get F 13 5 zd_MPainter_texel_1 (zW_o hs1 (by decide)) rfl (by decide) zw_1581 rfl (by rfl) ?_
  refine zr_tor ea3 ?_
  obtain ⟨le5, hs4, h⟩ := zoS_s h
  obtain ⟨a6, ea6, h⟩ := zoB_s h
  refine zr_get F 15 5 zd_MPainter_texel_4 (zW_o hs4 (by decide)) rfl (by decide) zw_1333 rfl (by rfl) ?_
  refine zr_tor ea6 ?_
  refine zr_iload_n F zd_MPainter_texel_7 rfl ?_
  obtain ⟨le8, hs7, h⟩ := zoS_s h
  obtain ⟨hi9, h⟩ := zoI_s h
  refine zr_iald F zd_MPainter_texel_8 (zW_a0 hs7) hi9 ?_
  refine zr_iload_n F zd_MPainter_texel_9 rfl ?_
  refine zr_ishr F zd_MPainter_texel_10 ?_
  refine zr_pcn 11 rfl ?_
  obtain ⟨x10, ex10, h⟩ := zoL_s h
  rw [← ex10]
  refine zr_istore F zd_MPainter_texel_11 (by decide) ?_
  refine zr_lload_n F zd_MPainter_texel_13 rfl ?_
  refine zr_iload F zd_MPainter_texel_14 rfl ?_
  refine zr_aload_n F zd_MPainter_texel_16 rfl ?_
  obtain ⟨le12, hs11, h⟩ := zoS_s h
  obtain ⟨a13, ea13, h⟩ := zoB_s h
  refine zr_get F 13 5 zd_MPainter_texel_17 (zW_o hs11 (by decide)) rfl (by decide) zw_1581 rfl (by rfl) ?_
  refine zr_tor ea13 ?_
  obtain ⟨le15, hs14, h⟩ := zoS_s h
  obtain ⟨a16, ea16, h⟩ := zoB_s h
  refine zr_get F 15 6 zd_MPainter_texel_20 (zW_o hs14 (by decide)) rfl (by decide) zw_1336 rfl (by rfl) ?_
  refine zr_tor ea16 ?_
  refine zr_iload_n F zd_MPainter_texel_23 rfl ?_
  obtain ⟨le18, hs17, h⟩ := zoS_s h
  obtain ⟨hi19, h⟩ := zoI_s h
  refine zr_iald F zd_MPainter_texel_24 (zW_a0 hs17) hi19 ?_
  refine zr_pcn 25 rfl ?_
  obtain ⟨x20, ex20, h⟩ := zoL_s h
  rw [← ex20]
  obtain ⟨p21, ep21, h⟩ := zoB_s h
  refine zr_callS1 F (k_MPainter_wrapped l D tA b sh _ ep21) zd_MPainter_texel_25 zs_MPainter_315 zq_MPainter_wrapped rfl rfl ⟨(Nat.le_of_ble_eq_true rfl), (Nat.le_of_ble_eq_true rfl)⟩ (Nat.le_of_ble_eq_true rfl) ⟨(Nat.le_of_ble_eq_true rfl), (Nat.le_of_ble_eq_true rfl)⟩ ?_
  refine zr_istore F zd_MPainter_texel_28 (by decide) ?_
  refine zr_lload F zd_MPainter_texel_30 rfl ?_
  refine zr_iload F zd_MPainter_texel_32 rfl ?_
  refine zr_aload_n F zd_MPainter_texel_34 rfl ?_
  obtain ⟨le23, hs22, h⟩ := zoS_s h
  obtain ⟨a24, ea24, h⟩ := zoB_s h
  refine zr_get F 13 5 zd_MPainter_texel_35 (zW_o hs22 (by decide)) rfl (by decide) zw_1581 rfl (by rfl) ?_
  refine zr_tor ea24 ?_
  obtain ⟨le26, hs25, h⟩ := zoS_s h
  obtain ⟨a27, ea27, h⟩ := zoB_s h
  refine zr_get F 15 6 zd_MPainter_texel_38 (zW_o hs25 (by decide)) rfl (by decide) zw_1336 rfl (by rfl) ?_
  refine zr_tor ea27 ?_
  refine zr_iload_n F zd_MPainter_texel_41 rfl ?_
  refine zr_pcn 42 rfl ?_
  obtain ⟨le29, hs28, h⟩ := zoS_s h
  obtain ⟨hi30, h⟩ := zoI_s h
  refine zr_iald F zd_MPainter_texel_42 (zW_a0 hs28) hi30 ?_
  obtain ⟨x31, ex31, h⟩ := zoL_s h
  rw [← ex31]
  obtain ⟨p32, ep32, h⟩ := zoB_s h
  refine zr_callS1 F (k_MPainter_wrapped l D tA b sh _ ep32) zd_MPainter_texel_43 zs_MPainter_315 zq_MPainter_wrapped rfl rfl ⟨(Nat.le_of_ble_eq_true rfl), (Nat.le_of_ble_eq_true rfl)⟩ (Nat.le_of_ble_eq_true rfl) ⟨(Nat.le_of_ble_eq_true rfl), (Nat.le_of_ble_eq_true rfl)⟩ ?_
  refine zr_istore F zd_MPainter_texel_46 (by decide) ?_
  refine zr_loc (L' := [(0, .ref (b + o)), (1, .int x0_), (2, .int x1_), (7, .int x4_), (8, .int x10), (9, .int (p21.1)), (10, .int (p32.1))]) ⟨rfl, rfl, rfl, rfl, rfl, rfl, rfl, trivial⟩ ?_
  refine zr_aload_n F zd_MPainter_texel_48 rfl ?_
  obtain ⟨le34, hs33, h⟩ := zoS_s h
  obtain ⟨a35, ea35, h⟩ := zoB_s h
  refine zr_get F 13 5 zd_MPainter_texel_49 (zW_o hs33 (by decide)) rfl (by decide) zw_1581 rfl (by rfl) ?_
  refine zr_tor ea35 ?_
  obtain ⟨le37, hs36, h⟩ := zoS_s h
  obtain ⟨a38, ea38, h⟩ := zoB_s h
  refine zr_get F 15 8 zd_MPainter_texel_52 (zW_o hs36 (by decide)) rfl (by decide) zw_1342 rfl (by rfl) ?_
  refine zr_tor ea38 ?_
  refine zr_aload_n F zd_MPainter_texel_55 rfl ?_
  obtain ⟨le40, hs39, h⟩ := zoS_s h
  obtain ⟨a41, ea41, h⟩ := zoB_s h
  refine zr_get F 13 5 zd_MPainter_texel_56 (zW_o hs39 (by decide)) rfl (by decide) zw_1581 rfl (by rfl) ?_
  refine zr_tor ea41 ?_
  refine zr_pcn 59 rfl ?_
  refine zr_iload_n F zd_MPainter_texel_59 rfl ?_
  refine zr_iload_n F zd_MPainter_texel_60 rfl ?_
  obtain ⟨le43, hs42, h⟩ := zoS_s h
  obtain ⟨p44, ep44, h⟩ := zoB_s h
  refine zr_callV1 F (k_MScene_levelAt l D tA b sh _ ep44) zd_MPainter_texel_61 (zW_o hs42 (by decide)) rfl zs_MPainter_322 rfl zq_MScene_levelAt rfl rfl ⟨(Nat.le_of_ble_eq_true rfl), (Nat.le_of_ble_eq_true rfl)⟩ (Nat.le_of_ble_eq_true rfl) ⟨(Nat.le_of_ble_eq_true rfl), (Nat.le_of_ble_eq_true rfl)⟩ ?_
  refine zr_iconstv (v := 3) F zd_MPainter_texel_64 (by decide) ?_
  refine zr_iload F zd_MPainter_texel_65 rfl ?_
  refine zr_iload F zd_MPainter_texel_67 rfl ?_
  refine zr_imul F zd_MPainter_texel_69 ?_
  refine zr_iload F zd_MPainter_texel_70 rfl ?_
  refine zr_pcn 72 rfl ?_
  refine zr_iadd F zd_MPainter_texel_72 ?_
  refine zr_imul F zd_MPainter_texel_73 ?_
  refine zr_iadd F zd_MPainter_texel_74 ?_
  refine zr_iload F zd_MPainter_texel_75 rfl ?_
  refine zr_iadd F zd_MPainter_texel_77 ?_
  obtain ⟨i45, ei45, h⟩ := zoL_s h
  rw [← ei45]
  obtain ⟨le47, hs46, h⟩ := zoS_s h
  obtain ⟨hi48, h⟩ := zoI_s h
  refine zr_iald F zd_MPainter_texel_78 (zW_a0 hs46) hi48 ?_
  refine zr_i2l F zd_MPainter_texel_79 ?_
  obtain rfl := Option.some.inj h
  exact zr_lret F hr zd_MPainter_texel_80 (Nat.le_of_ble_eq_true rfl) (Nat.le_of_ble_eq_true rfl) ⟨rfl, rfl, rfl⟩
