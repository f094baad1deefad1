abbrev zb_XSight_standPoints : ByteArray := prog_10_method_11_code
def zy_XSight_standPoints : MethodName := ⟨"OrreryBox$Sight", "standPoints", "(LOrreryBox$Mesh;)V"⟩
theorem zc_XSight_standPoints : Cond.code zy_XSight_standPoints zb_XSight_standPoints 9 none ∈ gw := gw_t 709 (by decide +kernel) rfl
theorem zq_XSight_standPoints : zy_XSight_standPoints.cls ≠ "java/lang/invoke/MethodHandle" ∧ zy_XSight_standPoints.cls ≠ "java/lang/invoke/VarHandle" ∧ (parseMethodDescriptor zy_XSight_standPoints.desc).map (fun d => d.parameters.length) = some 1 := by decide +kernel
theorem zd_XSight_standPoints_0 : decode zb_XSight_standPoints 0 = .ok (.aload_n 0, 1) := by decide +kernel
theorem zd_XSight_standPoints_1 : decode zb_XSight_standPoints 1 = .ok (.getfield 30, 3) := by decide +kernel
theorem zd_XSight_standPoints_4 : decode zb_XSight_standPoints 4 = .ok (.aload_n 0, 1) := by decide +kernel
theorem zd_XSight_standPoints_5 : decode zb_XSight_standPoints 5 = .ok (.getfield 33, 3) := by decide +kernel
theorem zd_XSight_standPoints_8 : decode zb_XSight_standPoints 8 = .ok (.aload_n 0, 1) := by decide +kernel
theorem zd_XSight_standPoints_9 : decode zb_XSight_standPoints 9 = .ok (.getfield 56, 3) := by decide +kernel
theorem zd_XSight_standPoints_12 : decode zb_XSight_standPoints 12 = .ok (.iaload, 1) := by decide +kernel
theorem zd_XSight_standPoints_13 : decode zb_XSight_standPoints 13 = .ok (.aaload, 1) := by decide +kernel
theorem zd_XSight_standPoints_14 : decode zb_XSight_standPoints 14 = .ok (.astore_n 2, 1) := by decide +kernel
theorem zd_XSight_standPoints_15 : decode zb_XSight_standPoints 15 = .ok (.aload_n 0, 1) := by decide +kernel
theorem zd_XSight_standPoints_16 : decode zb_XSight_standPoints 16 = .ok (.getfield 49, 3) := by decide +kernel
theorem zd_XSight_standPoints_19 : decode zb_XSight_standPoints 19 = .ok (.getfield 76, 3) := by decide +kernel
theorem zd_XSight_standPoints_22 : decode zb_XSight_standPoints 22 = .ok (.aload_n 0, 1) := by decide +kernel
theorem zd_XSight_standPoints_23 : decode zb_XSight_standPoints 23 = .ok (.getfield 33, 3) := by decide +kernel
theorem zd_XSight_standPoints_26 : decode zb_XSight_standPoints 26 = .ok (.aload_n 0, 1) := by decide +kernel
theorem zd_XSight_standPoints_27 : decode zb_XSight_standPoints 27 = .ok (.getfield 56, 3) := by decide +kernel
theorem zd_XSight_standPoints_30 : decode zb_XSight_standPoints 30 = .ok (.iaload, 1) := by decide +kernel
theorem zd_XSight_standPoints_31 : decode zb_XSight_standPoints 31 = .ok (.aaload, 1) := by decide +kernel
theorem zd_XSight_standPoints_32 : decode zb_XSight_standPoints 32 = .ok (.getfield 89, 3) := by decide +kernel
theorem zd_XSight_standPoints_35 : decode zb_XSight_standPoints 35 = .ok (.astore_n 3, 1) := by decide +kernel
theorem zd_XSight_standPoints_36 : decode zb_XSight_standPoints 36 = .ok (.aload_n 1, 1) := by decide +kernel
theorem zd_XSight_standPoints_37 : decode zb_XSight_standPoints 37 = .ok (.getfield 164, 3) := by decide +kernel
theorem zd_XSight_standPoints_40 : decode zb_XSight_standPoints 40 = .ok (.astore 4, 2) := by decide +kernel
theorem zd_XSight_standPoints_42 : decode zb_XSight_standPoints 42 = .ok (.iconst 0, 1) := by decide +kernel
theorem zd_XSight_standPoints_43 : decode zb_XSight_standPoints 43 = .ok (.istore 5, 2) := by decide +kernel
theorem zd_XSight_standPoints_45 : decode zb_XSight_standPoints 45 = .ok (.iload 5, 2) := by decide +kernel
theorem zd_XSight_standPoints_47 : decode zb_XSight_standPoints 47 = .ok (.aload_n 1, 1) := by decide +kernel
theorem zd_XSight_standPoints_48 : decode zb_XSight_standPoints 48 = .ok (.getfield 167, 3) := by decide +kernel
theorem zd_XSight_standPoints_51 : decode zb_XSight_standPoints 51 = .ok (.if_icmp .ge 111, 3) := by decide +kernel
theorem zd_XSight_standPoints_54 : decode zb_XSight_standPoints 54 = .ok (.iconst 0, 1) := by decide +kernel
theorem zd_XSight_standPoints_55 : decode zb_XSight_standPoints 55 = .ok (.istore 6, 2) := by decide +kernel
theorem zd_XSight_standPoints_57 : decode zb_XSight_standPoints 57 = .ok (.iload 6, 2) := by decide +kernel
theorem zd_XSight_standPoints_59 : decode zb_XSight_standPoints 59 = .ok (.iconst 3, 1) := by decide +kernel
theorem zd_XSight_standPoints_60 : decode zb_XSight_standPoints 60 = .ok (.if_icmp .ge 72, 3) := by decide +kernel
theorem zd_XSight_standPoints_63 : decode zb_XSight_standPoints 63 = .ok (.aload_n 2, 1) := by decide +kernel
theorem zd_XSight_standPoints_64 : decode zb_XSight_standPoints 64 = .ok (.iload 6, 2) := by decide +kernel
theorem zd_XSight_standPoints_66 : decode zb_XSight_standPoints 66 = .ok (.aload 4, 2) := by decide +kernel
theorem zd_XSight_standPoints_68 : decode zb_XSight_standPoints 68 = .ok (.iconst 3, 1) := by decide +kernel
theorem zd_XSight_standPoints_69 : decode zb_XSight_standPoints 69 = .ok (.iload 5, 2) := by decide +kernel
theorem zd_XSight_standPoints_71 : decode zb_XSight_standPoints 71 = .ok (.imul, 1) := by decide +kernel
theorem zd_XSight_standPoints_72 : decode zb_XSight_standPoints 72 = .ok (.iaload, 1) := by decide +kernel
theorem zd_XSight_standPoints_73 : decode zb_XSight_standPoints 73 = .ok (.i2l, 1) := by decide +kernel
theorem zd_XSight_standPoints_74 : decode zb_XSight_standPoints 74 = .ok (.aload 4, 2) := by decide +kernel
theorem zd_XSight_standPoints_76 : decode zb_XSight_standPoints 76 = .ok (.iconst 3, 1) := by decide +kernel
theorem zd_XSight_standPoints_77 : decode zb_XSight_standPoints 77 = .ok (.iload 5, 2) := by decide +kernel
theorem zd_XSight_standPoints_79 : decode zb_XSight_standPoints 79 = .ok (.imul, 1) := by decide +kernel
theorem zd_XSight_standPoints_80 : decode zb_XSight_standPoints 80 = .ok (.iconst 1, 1) := by decide +kernel
theorem zd_XSight_standPoints_81 : decode zb_XSight_standPoints 81 = .ok (.iadd, 1) := by decide +kernel
theorem zd_XSight_standPoints_82 : decode zb_XSight_standPoints 82 = .ok (.iaload, 1) := by decide +kernel
theorem zd_XSight_standPoints_83 : decode zb_XSight_standPoints 83 = .ok (.i2l, 1) := by decide +kernel
theorem zd_XSight_standPoints_84 : decode zb_XSight_standPoints 84 = .ok (.aload 4, 2) := by decide +kernel
theorem zd_XSight_standPoints_86 : decode zb_XSight_standPoints 86 = .ok (.iconst 3, 1) := by decide +kernel
theorem zd_XSight_standPoints_87 : decode zb_XSight_standPoints 87 = .ok (.iload 5, 2) := by decide +kernel
theorem zd_XSight_standPoints_89 : decode zb_XSight_standPoints 89 = .ok (.imul, 1) := by decide +kernel
theorem zd_XSight_standPoints_90 : decode zb_XSight_standPoints 90 = .ok (.iconst 2, 1) := by decide +kernel
theorem zd_XSight_standPoints_91 : decode zb_XSight_standPoints 91 = .ok (.iadd, 1) := by decide +kernel
theorem zd_XSight_standPoints_92 : decode zb_XSight_standPoints 92 = .ok (.iaload, 1) := by decide +kernel
theorem zd_XSight_standPoints_93 : decode zb_XSight_standPoints 93 = .ok (.i2l, 1) := by decide +kernel
theorem zd_XSight_standPoints_94 : decode zb_XSight_standPoints 94 = .ok (.invokestatic 113, 3) := by decide +kernel
theorem zd_XSight_standPoints_97 : decode zb_XSight_standPoints 97 = .ok (.lstore 7, 2) := by decide +kernel
theorem zd_XSight_standPoints_99 : decode zb_XSight_standPoints 99 = .ok (.aload_n 0, 1) := by decide +kernel
theorem zd_XSight_standPoints_100 : decode zb_XSight_standPoints 100 = .ok (.getfield 36, 3) := by decide +kernel
theorem zd_XSight_standPoints_103 : decode zb_XSight_standPoints 103 = .ok (.iconst 4, 1) := by decide +kernel
theorem zd_XSight_standPoints_104 : decode zb_XSight_standPoints 104 = .ok (.iload 5, 2) := by decide +kernel
theorem zd_XSight_standPoints_106 : decode zb_XSight_standPoints 106 = .ok (.imul, 1) := by decide +kernel
theorem zd_XSight_standPoints_107 : decode zb_XSight_standPoints 107 = .ok (.iload 6, 2) := by decide +kernel
theorem zd_XSight_standPoints_109 : decode zb_XSight_standPoints 109 = .ok (.iadd, 1) := by decide +kernel
theorem zd_XSight_standPoints_110 : decode zb_XSight_standPoints 110 = .ok (.lload 7, 2) := by decide +kernel
theorem zd_XSight_standPoints_112 : decode zb_XSight_standPoints 112 = .ok (.aload_n 2, 1) := by decide +kernel
theorem zd_XSight_standPoints_113 : decode zb_XSight_standPoints 113 = .ok (.iconst 4, 1) := by decide +kernel
theorem zd_XSight_standPoints_114 : decode zb_XSight_standPoints 114 = .ok (.iload 6, 2) := by decide +kernel
theorem zd_XSight_standPoints_116 : decode zb_XSight_standPoints 116 = .ok (.imul, 1) := by decide +kernel
theorem zd_XSight_standPoints_117 : decode zb_XSight_standPoints 117 = .ok (.iconst 3, 1) := by decide +kernel
theorem zd_XSight_standPoints_118 : decode zb_XSight_standPoints 118 = .ok (.iadd, 1) := by decide +kernel
theorem zd_XSight_standPoints_119 : decode zb_XSight_standPoints 119 = .ok (.iaload, 1) := by decide +kernel
theorem zd_XSight_standPoints_120 : decode zb_XSight_standPoints 120 = .ok (.i2l, 1) := by decide +kernel
theorem zd_XSight_standPoints_121 : decode zb_XSight_standPoints 121 = .ok (.ladd, 1) := by decide +kernel
theorem zd_XSight_standPoints_122 : decode zb_XSight_standPoints 122 = .ok (.invokestatic 117, 3) := by decide +kernel
theorem zd_XSight_standPoints_125 : decode zb_XSight_standPoints 125 = .ok (.iastore, 1) := by decide +kernel
theorem zd_XSight_standPoints_126 : decode zb_XSight_standPoints 126 = .ok (.iinc 6 1, 3) := by decide +kernel
theorem zd_XSight_standPoints_129 : decode zb_XSight_standPoints 129 = .ok (.goto (-72), 3) := by decide +kernel
theorem zd_XSight_standPoints_132 : decode zb_XSight_standPoints 132 = .ok (.aload_n 0, 1) := by decide +kernel
theorem zd_XSight_standPoints_133 : decode zb_XSight_standPoints 133 = .ok (.getfield 36, 3) := by decide +kernel
theorem zd_XSight_standPoints_136 : decode zb_XSight_standPoints 136 = .ok (.iconst 4, 1) := by decide +kernel
theorem zd_XSight_standPoints_137 : decode zb_XSight_standPoints 137 = .ok (.iload 5, 2) := by decide +kernel
theorem zd_XSight_standPoints_139 : decode zb_XSight_standPoints 139 = .ok (.imul, 1) := by decide +kernel
theorem zd_XSight_standPoints_140 : decode zb_XSight_standPoints 140 = .ok (.iconst 3, 1) := by decide +kernel
theorem zd_XSight_standPoints_141 : decode zb_XSight_standPoints 141 = .ok (.iadd, 1) := by decide +kernel
theorem zd_XSight_standPoints_142 : decode zb_XSight_standPoints 142 = .ok (.aload_n 0, 1) := by decide +kernel
theorem zd_XSight_standPoints_143 : decode zb_XSight_standPoints 143 = .ok (.aload_n 3, 1) := by decide +kernel
theorem zd_XSight_standPoints_144 : decode zb_XSight_standPoints 144 = .ok (.aload_n 1, 1) := by decide +kernel
theorem zd_XSight_standPoints_145 : decode zb_XSight_standPoints 145 = .ok (.getfield 170, 3) := by decide +kernel
theorem zd_XSight_standPoints_148 : decode zb_XSight_standPoints 148 = .ok (.iconst 3, 1) := by decide +kernel
theorem zd_XSight_standPoints_149 : decode zb_XSight_standPoints 149 = .ok (.iload 5, 2) := by decide +kernel
theorem zd_XSight_standPoints_151 : decode zb_XSight_standPoints 151 = .ok (.imul, 1) := by decide +kernel
theorem zd_XSight_standPoints_152 : decode zb_XSight_standPoints 152 = .ok (.invokevirtual 173, 3) := by decide +kernel
theorem zd_XSight_standPoints_155 : decode zb_XSight_standPoints 155 = .ok (.iastore, 1) := by decide +kernel
theorem zd_XSight_standPoints_156 : decode zb_XSight_standPoints 156 = .ok (.iinc 5 1, 3) := by decide +kernel
theorem zd_XSight_standPoints_159 : decode zb_XSight_standPoints 159 = .ok (.goto (-114), 3) := by decide +kernel
theorem zd_XSight_standPoints_162 : decode zb_XSight_standPoints 162 = .ok (.return_, 1) := by decide +kernel
theorem zw_230 : (Jvm.Cond.fieldLink "OrreryBox$Sight" (89 : Nat) "OrreryBox$Node" "placing" "[I") ∈ gw := gw_t 230 (by decide +kernel) rfl
theorem zw_184 : (Jvm.Cond.fieldLink "OrreryBox$Sight" (164 : Nat) "OrreryBox$Mesh" "points" "[I") ∈ gw := gw_t 184 (by decide +kernel) rfl
theorem zw_179 : (Jvm.Cond.fieldLink "OrreryBox$Sight" (167 : Nat) "OrreryBox$Mesh" "pointCount" "I") ∈ gw := gw_t 179 (by decide +kernel) rfl
def L_XSight_standPoints_57 (sh : zSh) (fuel : Nat) (v0 : Nat) (v1 : Nat) (v2 : Nat) (v3 : Nat) (v4 : Nat) (v5 : Int32) (v6 : Int32) (mm : zMem) : Option (Nat × Nat × Nat × Nat × Nat × Int32 × Int32 × zMem) := match fuel with
  | 0 => none
  | fu + 1 => (if 3 ≤ v6 then some (v0, v1, v2, v3, v4, v5, v6, mm) else zoL (3 * v5) (fun i50 => zoS (sh v4) 100 (fun le52 => if (i50 : Int32) < 0 ∨ le52 ≤ (i50 : Int32).toNatClampNeg then none else zoL ((3 * v5) + 1) (fun i54 => zoS (sh v4) 100 (fun le56 => if (i54 : Int32) < 0 ∨ le56 ≤ (i54 : Int32).toNatClampNeg then none else zoL ((3 * v5) + 2) (fun i58 => zoS (sh v4) 100 (fun le60 => if (i58 : Int32) < 0 ∨ le60 ≤ (i58 : Int32).toNatClampNeg then none else zoL (((mm.1 v4 (i50 : Int32).toNatClampNeg) : Int32).toInt64) (fun x62 => zoL (((mm.1 v4 (i54 : Int32).toNatClampNeg) : Int32).toInt64) (fun x63 => zoL (((mm.1 v4 (i58 : Int32).toNatClampNeg) : Int32).toInt64) (fun x64 => Option.bind (F_XFixed_along sh mm v2 v6 x62 x63 x64) (fun p65 => zoS (sh v0) 9 (fun le67 => Option.bind ((p65.2).2.2 v0 13) (fun a68 => zoL ((4 * v6) + 3) (fun i69 => zoS (sh v2) 100 (fun le71 => if (i69 : Int32) < 0 ∨ le71 ≤ (i69 : Int32).toNatClampNeg then none else zoL (p65.1 + ((((p65.2).1 v2 (i69 : Int32).toNatClampNeg) : Int32).toInt64)) (fun x73 => zoL (zx_bound x73) (fun x75 => zoL ((4 * v5) + v6) (fun i76 => zoS (sh a68) 100 (fun le78 => if (i76 : Int32) < 0 ∨ le78 ≤ (i76 : Int32).toNatClampNeg then none else zoL (mI (p65.2) a68 (i76 : Int32).toNatClampNeg x75) (fun mm80 => L_XSight_standPoints_57 sh fu v0 v1 v2 v3 v4 v5 (v6 + 1) mm80))))))))))))))))))))
set_option maxHeartbeats 4000000 in
set_option maxRecDepth 100000 in
theorem lp_XSight_standPoints_57 {p : Program} {l : Launch} {e : Env} {s : State} {m : MethodId} {args : Array Value} {below : List Frame} {meth : Method} {c : Code} {D : va_G} {tA : Nat → ClassId} {b n : Nat} {post : Option Value → zV → Nat → Prop} {sh : zSh} (F : zF p s m args meth c zb_XSight_standPoints 9 "OrreryBox$Sight" D tA b) : ∀ (fuel : Nat) (v0 : Nat) (v1 : Nat) (v2 : Nat) (v3 : Nat) (v4 : Nat) (v5 : Int32) (v6 : Int32) (mm : zMem) (r : Nat × Nat × Nat × Nat × Nat × Int32 × Int32 × zMem), L_XSight_standPoints_57 sh fuel v0 v1 v2 v3 v4 v5 v6 mm = some r → (Z p l e { frames := 3, cells := 0, slots := 0, locals := 78 } s m args below meth c D b 9 (MQ below (zQ D b post) args s 0 0 (fun q => b ≤ q)) (zW tA b sh r.2.2.2.2.2.2.2) n 0 0 132 [(0, .ref (b + (r.1))), (1, .ref (b + (r.2.1))), (2, .ref (b + (r.2.2.1))), (3, .ref (b + (r.2.2.2.1))), (4, .ref (b + (r.2.2.2.2.1))), (5, .int (r.2.2.2.2.2.1)), (6, .int (r.2.2.2.2.2.2.1))] []) → Z p l e { frames := 3, cells := 0, slots := 0, locals := 78 } s m args below meth c D b 9 (MQ below (zQ D b post) args s 0 0 (fun q => b ≤ q)) (zW tA b sh mm) n 0 0 57 [(0, .ref (b + v0)), (1, .ref (b + v1)), (2, .ref (b + v2)), (3, .ref (b + v3)), (4, .ref (b + v4)), (5, .int v5), (6, .int v6)] [] := by
  intro fuel
  induction fuel with
  | zero =>
    intro v0 v1 v2 v3 v4 v5 v6 mm r h
    cases h
  | succ fu ih =>
    intro v0 v1 v2 v3 v4 v5 v6 mm r h hx0
    rw [L_XSight_standPoints_57] at h
    refine zr_pcn 57 rfl ?_
    refine zr_iload F zd_XSight_standPoints_57 rfl ?_
    refine zr_iconstv (v := 3) F zd_XSight_standPoints_59 (by decide) ?_
    refine zr_icmp_ge F 132 zd_XSight_standPoints_60 (by decide) (fun hb49 => ?_) (fun hb49 => ?_)
    ·
      rw [if_pos hb49] at h
      obtain rfl := Option.some.inj h
      refine zr_loc (L' := [(0, .ref (b + v0)), (1, .ref (b + v1)), (2, .ref (b + v2)), (3, .ref (b + v3)), (4, .ref (b + v4)), (5, .int v5), (6, .int v6)]) ⟨rfl, rfl, rfl, rfl, rfl, rfl, rfl, trivial⟩ ?_
      exact hx0 
    ·
      rw [if_neg hb49] at h
      refine zr_aload_n F zd_XSight_standPoints_63 rfl ?_
      refine zr_iload F zd_XSight_standPoints_64 rfl ?_
      refine zr_aload F zd_XSight_standPoints_66 rfl ?_
      refine zr_iconstv (v := 3) F zd_XSight_standPoints_68 (by decide) ?_
      refine zr_iload F zd_XSight_standPoints_69 rfl ?_
      refine zr_pcn 71 rfl ?_
      refine zr_imul F zd_XSight_standPoints_71 ?_
      obtain ⟨i50, ei50, h⟩ := zoL_s h
      rw [← ei50]
      obtain ⟨le52, hs51, h⟩ := zoS_s h
      obtain ⟨hi53, h⟩ := zoI_s h
      refine zr_iald F zd_XSight_standPoints_72 (zW_a0 hs51) hi53 ?_
      refine zr_i2l F zd_XSight_standPoints_73 ?_
      refine zr_aload F zd_XSight_standPoints_74 rfl ?_
      refine zr_iconstv (v := 3) F zd_XSight_standPoints_76 (by decide) ?_
      refine zr_iload F zd_XSight_standPoints_77 rfl ?_
      refine zr_imul F zd_XSight_standPoints_79 ?_
      refine zr_iconstv (v := 1) F zd_XSight_standPoints_80 (by decide) ?_
      refine zr_pcn 81 rfl ?_
      refine zr_iadd F zd_XSight_standPoints_81 ?_
      obtain ⟨i54, ei54, h⟩ := zoL_s h
      rw [← ei54]
      obtain ⟨le56, hs55, h⟩ := zoS_s h
      obtain ⟨hi57, h⟩ := zoI_s h
      refine zr_iald F zd_XSight_standPoints_82 (zW_a0 hs55) hi57 ?_
      refine zr_i2l F zd_XSight_standPoints_83 ?_
      refine zr_aload F zd_XSight_standPoints_84 rfl ?_
      refine zr_iconstv (v := 3) F zd_XSight_standPoints_86 (by decide) ?_
      refine zr_iload F zd_XSight_standPoints_87 rfl ?_
      refine zr_imul F zd_XSight_standPoints_89 ?_
      refine zr_iconstv (v := 2) F zd_XSight_standPoints_90 (by decide) ?_
      refine zr_pcn 91 rfl ?_
      refine zr_iadd F zd_XSight_standPoints_91 ?_
      obtain ⟨i58, ei58, h⟩ := zoL_s h
      rw [← ei58]
      obtain ⟨le60, hs59, h⟩ := zoS_s h
      obtain ⟨hi61, h⟩ := zoI_s h
      refine zr_iald F zd_XSight_standPoints_92 (zW_a0 hs59) hi61 ?_
      refine zr_i2l F zd_XSight_standPoints_93 ?_
      obtain ⟨x62, ex62, h⟩ := zoL_s h
      rw [← ex62]
      obtain ⟨x63, ex63, h⟩ := zoL_s h
      rw [← ex63]
      obtain ⟨x64, ex64, h⟩ := zoL_s h
      rw [← ex64]
      obtain ⟨p65, ep65, h⟩ := zoB_s h
      refine zr_callS1 F (k_XFixed_along l D tA b sh _ ep65) zd_XSight_standPoints_94 zs_XSight_113 zq_XFixed_along rfl rfl ⟨(Nat.le_of_ble_eq_true rfl), (Nat.le_of_ble_eq_true rfl)⟩ (Nat.le_of_ble_eq_true rfl) ⟨(Nat.le_of_ble_eq_true rfl), (Nat.le_of_ble_eq_true rfl)⟩ ?_
      refine zr_lstore F zd_XSight_standPoints_97 (by decide) ?_
      refine zr_aload_n F zd_XSight_standPoints_99 rfl ?_
      obtain ⟨le67, hs66, h⟩ := zoS_s h
      obtain ⟨a68, ea68, h⟩ := zoB_s h
      refine zr_get F 9 13 zd_XSight_standPoints_100 (zW_o hs66 (by decide)) rfl (by decide) zw_386 rfl (by rfl) ?_
      refine zr_tor ea68 ?_
      refine zr_iconstv (v := 4) F zd_XSight_standPoints_103 (by decide) ?_
      refine zr_pcn 104 rfl ?_
      refine zr_iload F zd_XSight_standPoints_104 rfl ?_
      refine zr_imul F zd_XSight_standPoints_106 ?_
      refine zr_iload F zd_XSight_standPoints_107 rfl ?_
      refine zr_iadd F zd_XSight_standPoints_109 ?_
      refine zr_lload F zd_XSight_standPoints_110 rfl ?_
      refine zr_aload_n F zd_XSight_standPoints_112 rfl ?_
      refine zr_iconstv (v := 4) F zd_XSight_standPoints_113 (by decide) ?_
      refine zr_iload F zd_XSight_standPoints_114 rfl ?_
      refine zr_pcn 116 rfl ?_
      refine zr_imul F zd_XSight_standPoints_116 ?_
      refine zr_iconstv (v := 3) F zd_XSight_standPoints_117 (by decide) ?_
      refine zr_iadd F zd_XSight_standPoints_118 ?_
      obtain ⟨i69, ei69, h⟩ := zoL_s h
      rw [← ei69]
      obtain ⟨le71, hs70, h⟩ := zoS_s h
      obtain ⟨hi72, h⟩ := zoI_s h
      refine zr_iald F zd_XSight_standPoints_119 (zW_a0 hs70) hi72 ?_
      refine zr_i2l F zd_XSight_standPoints_120 ?_
      refine zr_ladd F zd_XSight_standPoints_121 ?_
      obtain ⟨x73, ex73, h⟩ := zoL_s h
      rw [← ex73]
      refine zr_callS1 F (c_XFixed_bound l D tA b _ _ x73) zd_XSight_standPoints_122 zs_XSight_117 zq_XFixed_bound rfl rfl ⟨(Nat.le_of_ble_eq_true rfl), (Nat.le_of_ble_eq_true rfl)⟩ (Nat.le_of_ble_eq_true rfl) ⟨(Nat.le_of_ble_eq_true rfl), (Nat.le_of_ble_eq_true rfl)⟩ ?_
      obtain ⟨x75, ex75, h⟩ := zoL_s h
      rw [← ex75]
      obtain ⟨i76, ei76, h⟩ := zoL_s h
      rw [← ei76]
      obtain ⟨le78, hs77, h⟩ := zoS_s h
      obtain ⟨hi79, h⟩ := zoI_s h
      refine zr_iast F zd_XSight_standPoints_125 (zW_a0 hs77) hi79 ?_
      obtain ⟨mm80, emm80, h⟩ := zoL_s h
      refine zr_norm (zW tA b sh mm80) _ (by rw [emm80]; exact zW_s0 hs77) rfl ?_
      refine zr_pcn 126 rfl ?_
      refine zr_iinc (v := (v6 + 1)) F zd_XSight_standPoints_126 rfl rfl (by decide) ?_
      refine zr_goto F 57 zd_XSight_standPoints_129 (by decide) ?_
      refine zr_loc (L' := [(0, .ref (b + v0)), (1, .ref (b + v1)), (2, .ref (b + v2)), (3, .ref (b + v3)), (4, .ref (b + v4)), (5, .int v5), (6, .int (v6 + 1))]) ⟨rfl, rfl, rfl, rfl, rfl, rfl, rfl, trivial⟩ ?_
      exact ih _ _ _ _ _ _ _ _ _ h hx0
theorem zw_187 : (Jvm.Cond.fieldLink "OrreryBox$Sight" (170 : Nat) "OrreryBox$Mesh" "normals" "[I") ∈ gw := gw_t 187 (by decide +kernel) rfl
theorem zw_710 : (Jvm.Cond.methodLink "OrreryBox$Sight" (173 : Nat) ({ cls := "OrreryBox$Sight", name := "lightOf", desc := "([I[II)I" } : Jvm.MethodName)) ∈ gw := gw_t 710 (by decide +kernel) rfl
theorem zw_712 : (Jvm.Cond.instanceMethod ({ cls := "OrreryBox$Sight", name := "lightOf", desc := "([I[II)I" } : Jvm.MethodName)) ∈ gw := gw_t 712 (by decide +kernel) rfl
theorem zv_10 : (Jvm.Cond.selects "OrreryBox$Sight" (⟨"OrreryBox$Sight", "lightOf", "([I[II)I"⟩ : MethodName) ⟨"OrreryBox$Sight", "lightOf", "([I[II)I"⟩) ∈ gw := gw_s 10 (by decide +kernel) rfl
theorem zs_XSight_173 : zwV "OrreryBox$Sight" 173 "OrreryBox$Sight" zy_XSight_lightOf zb_XSight_lightOf 9 (some .int) := ⟨zw_710, zw_712, zv_10, zw_10, zc_XSight_lightOf⟩
def L_XSight_standPoints_45 (sh : zSh) (fuel : Nat) (v0 : Nat) (v1 : Nat) (v2 : Nat) (v3 : Nat) (v4 : Nat) (v5 : Int32) (mm : zMem) : Option (Nat × Nat × Nat × Nat × Nat × Int32 × zMem) := match fuel with
  | 0 => none
  | fu + 1 => zoS (sh v1) 2 (fun le47 => (if (mm.1 v1 1) ≤ v5 then some (v0, v1, v2, v3, v4, v5, mm) else Option.bind (L_XSight_standPoints_57 sh zfuel v0 v1 v2 v3 v4 v5 0 mm) (fun q81 => zoS (sh (q81.1)) 9 (fun le83 => Option.bind ((q81.2.2.2.2.2.2.2).2.2 (q81.1) 13) (fun a84 => zoS (sh (q81.2.1)) 2 (fun le86 => Option.bind ((q81.2.2.2.2.2.2.2).2.2 (q81.2.1) 4) (fun a87 => zoS (sh (q81.1)) 9 (fun le89 => Option.bind (F_XSight_lightOf sh (q81.2.2.2.2.2.2.2) (q81.1) (q81.2.2.2.1) a87 (3 * q81.2.2.2.2.2.1)) (fun p90 => zoL ((4 * q81.2.2.2.2.2.1) + 3) (fun i91 => zoS (sh a84) 100 (fun le93 => if (i91 : Int32) < 0 ∨ le93 ≤ (i91 : Int32).toNatClampNeg then none else zoL (mI (p90.2) a84 (i91 : Int32).toNatClampNeg (p90.1)) (fun mm95 => L_XSight_standPoints_45 sh fu (q81.1) (q81.2.1) (q81.2.2.1) (q81.2.2.2.1) (q81.2.2.2.2.1) (q81.2.2.2.2.2.1 + 1) mm95))))))))))))
set_option maxHeartbeats 4000000 in
set_option maxRecDepth 100000 in
theorem lp_XSight_standPoints_45 {p : Program} {l : Launch} {e : Env} {s : State} {m : MethodId} {args : Array Value} {below : List Frame} {meth : Method} {c : Code} {D : va_G} {tA : Nat → ClassId} {b n : Nat} {post : Option Value → zV → Nat → Prop} {sh : zSh} (F : zF p s m args meth c zb_XSight_standPoints 9 "OrreryBox$Sight" D tA b) : ∀ (fuel : Nat) (v0 : Nat) (v1 : Nat) (v2 : Nat) (v3 : Nat) (v4 : Nat) (v5 : Int32) (mm : zMem) (r : Nat × Nat × Nat × Nat × Nat × Int32 × zMem), L_XSight_standPoints_45 sh fuel v0 v1 v2 v3 v4 v5 mm = some r → (Z p l e { frames := 3, cells := 0, slots := 0, locals := 78 } s m args below meth c D b 9 (MQ below (zQ D b post) args s 0 0 (fun q => b ≤ q)) (zW tA b sh r.2.2.2.2.2.2) n 0 0 162 [(0, .ref (b + (r.1))), (1, .ref (b + (r.2.1))), (2, .ref (b + (r.2.2.1))), (3, .ref (b + (r.2.2.2.1))), (4, .ref (b + (r.2.2.2.2.1))), (5, .int (r.2.2.2.2.2.1))] []) → Z p l e { frames := 3, cells := 0, slots := 0, locals := 78 } s m args below meth c D b 9 (MQ below (zQ D b post) args s 0 0 (fun q => b ≤ q)) (zW tA b sh mm) n 0 0 45 [(0, .ref (b + v0)), (1, .ref (b + v1)), (2, .ref (b + v2)), (3, .ref (b + v3)), (4, .ref (b + v4)), (5, .int v5)] [] := by
  intro fuel
  induction fuel with
  | zero =>
    intro v0 v1 v2 v3 v4 v5 mm r h
    cases h
  | succ fu ih =>
    intro v0 v1 v2 v3 v4 v5 mm r h hx0
    rw [L_XSight_standPoints_45] at h
    refine zr_iload F zd_XSight_standPoints_45 rfl ?_
    refine zr_aload_n F zd_XSight_standPoints_47 rfl ?_
    obtain ⟨le47, hs46, h⟩ := zoS_s h
    refine zr_get F 2 1 zd_XSight_standPoints_48 (zW_o hs46 (by decide)) rfl (by decide) zw_179 rfl (by rfl) ?_
    refine zr_icmp_ge F 162 zd_XSight_standPoints_51 (by decide) (fun hb48 => ?_) (fun hb48 => ?_)
    ·
      rw [if_pos hb48] at h
      obtain rfl := Option.some.inj h
      refine zr_loc (L' := [(0, .ref (b + v0)), (1, .ref (b + v1)), (2, .ref (b + v2)), (3, .ref (b + v3)), (4, .ref (b + v4)), (5, .int v5)]) ⟨rfl, rfl, rfl, rfl, rfl, rfl, trivial⟩ ?_
      exact hx0 
    ·
      rw [if_neg hb48] at h
      refine zr_iconstv (v := 0) F zd_XSight_standPoints_54 (by decide) ?_
      refine zr_istore F zd_XSight_standPoints_55 (by decide) ?_
      obtain ⟨q81, eq81, h⟩ := zoB_s h
      refine zr_loc (L' := [(0, .ref (b + v0)), (1, .ref (b + v1)), (2, .ref (b + v2)), (3, .ref (b + v3)), (4, .ref (b + v4)), (5, .int v5), (6, .int 0)]) ⟨rfl, rfl, rfl, rfl, rfl, rfl, rfl, trivial⟩ ?_
      refine lp_XSight_standPoints_57 F _ _ _ _ _ _ _ _ _ _ eq81 ?_
      ·
        refine zr_aload_n F zd_XSight_standPoints_132 rfl ?_
        obtain ⟨le83, hs82, h⟩ := zoS_s h
        obtain ⟨a84, ea84, h⟩ := zoB_s h
        refine zr_get F 9 13 zd_XSight_standPoints_133 (zW_o hs82 (by decide)) rfl (by decide) zw_386 rfl (by rfl) ?_
        refine zr_tor ea84 ?_
        refine zr_iconstv (v := 4) F zd_XSight_standPoints_136 (by decide) ?_
        refine zr_iload F zd_XSight_standPoints_137 rfl ?_
        refine zr_imul F zd_XSight_standPoints_139 ?_
        refine zr_iconstv (v := 3) F zd_XSight_standPoints_140 (by decide) ?_
        refine zr_pcn 141 rfl ?_
        refine zr_iadd F zd_XSight_standPoints_141 ?_
        refine zr_aload_n F zd_XSight_standPoints_142 rfl ?_
        refine zr_aload_n F zd_XSight_standPoints_143 rfl ?_
        refine zr_aload_n F zd_XSight_standPoints_144 rfl ?_
        obtain ⟨le86, hs85, h⟩ := zoS_s h
        obtain ⟨a87, ea87, h⟩ := zoB_s h
        refine zr_get F 2 4 zd_XSight_standPoints_145 (zW_o hs85 (by decide)) rfl (by decide) zw_187 rfl (by rfl) ?_
        refine zr_tor ea87 ?_
        refine zr_iconstv (v := 3) F zd_XSight_standPoints_148 (by decide) ?_
        refine zr_iload F zd_XSight_standPoints_149 rfl ?_
        refine zr_imul F zd_XSight_standPoints_151 ?_
        refine zr_pcn 152 rfl ?_
        obtain ⟨le89, hs88, h⟩ := zoS_s h
        obtain ⟨p90, ep90, h⟩ := zoB_s h
        refine zr_callV1 F (k_XSight_lightOf l D tA b sh _ ep90) zd_XSight_standPoints_152 (zW_o hs88 (by decide)) rfl zs_XSight_173 rfl zq_XSight_lightOf rfl rfl ⟨(Nat.le_of_ble_eq_true rfl), (Nat.le_of_ble_eq_true rfl)⟩ (Nat.le_of_ble_eq_true rfl) ⟨(Nat.le_of_ble_eq_true rfl), (Nat.le_of_ble_eq_true rfl)⟩ ?_
        obtain ⟨i91, ei91, h⟩ := zoL_s h
        rw [← ei91]
        obtain ⟨le93, hs92, h⟩ := zoS_s h
        obtain ⟨hi94, h⟩ := zoI_s h
        refine zr_iast F zd_XSight_standPoints_155 (zW_a0 hs92) hi94 ?_
        obtain ⟨mm95, emm95, h⟩ := zoL_s h
        refine zr_norm (zW tA b sh mm95) _ (by rw [emm95]; exact zW_s0 hs92) rfl ?_
        refine zr_iinc (v := (q81.2.2.2.2.2.1 + 1)) F zd_XSight_standPoints_156 rfl rfl (by decide) ?_
        refine zr_goto F 45 zd_XSight_standPoints_159 (by decide) ?_
        refine zr_loc (L' := [(0, .ref (b + (q81.1))), (1, .ref (b + (q81.2.1))), (2, .ref (b + (q81.2.2.1))), (3, .ref (b + (q81.2.2.2.1))), (4, .ref (b + (q81.2.2.2.2.1))), (5, .int (q81.2.2.2.2.2.1 + 1))]) ⟨rfl, rfl, rfl, rfl, rfl, rfl, trivial⟩ ?_
        exact ih _ _ _ _ _ _ _ _ h hx0
def F_XSight_standPoints (sh : zSh) (mm : zMem) (o : Nat) (x0_ : Nat) : Option zMem := zoS (sh o) 9 (fun le2 => Option.bind (mm.2.2 o 9) (fun a3 => zoS (sh o) 9 (fun le5 => Option.bind (mm.2.2 o 10) (fun a6 => zoS (sh o) 9 (fun le8 => zoL (mm.1 o 12) (fun i9 => zoS (sh a6) 100 (fun le11 => if (i9 : Int32) < 0 ∨ le11 ≤ (i9 : Int32).toNatClampNeg then none else zoL (mm.1 a6 (i9 : Int32).toNatClampNeg) (fun i13 => zoR (sh a3) (fun t17 le15 => if (i13 : Int32) < 0 ∨ le15 ≤ (i13 : Int32).toNatClampNeg then none else Option.bind (mm.2.2 a3 (i13 : Int32).toNatClampNeg) (fun a18 => zoS (sh o) 9 (fun le20 => Option.bind (mm.2.2 o 7) (fun a21 => zoS (sh a21) 8 (fun le23 => Option.bind (mm.2.2 a21 4) (fun a24 => zoS (sh o) 9 (fun le26 => Option.bind (mm.2.2 o 10) (fun a27 => zoS (sh o) 9 (fun le29 => zoL (mm.1 o 12) (fun i30 => zoS (sh a27) 100 (fun le32 => if (i30 : Int32) < 0 ∨ le32 ≤ (i30 : Int32).toNatClampNeg then none else zoL (mm.1 a27 (i30 : Int32).toNatClampNeg) (fun i34 => zoR (sh a24) (fun t38 le36 => if (i34 : Int32) < 0 ∨ le36 ≤ (i34 : Int32).toNatClampNeg then none else Option.bind (mm.2.2 a24 (i34 : Int32).toNatClampNeg) (fun a39 => zoS (sh a39) 3 (fun le41 => Option.bind (mm.2.2 a39 5) (fun a42 => zoS (sh x0_) 2 (fun le44 => Option.bind (mm.2.2 x0_ 3) (fun a45 => Option.bind (L_XSight_standPoints_45 sh zfuel o x0_ a18 a42 a45 0 mm) (fun q96 => some (q96.2.2.2.2.2.2))))))))))))))))))))))))))))
set_option maxHeartbeats 4000000 in
set_option maxRecDepth 100000 in
theorem k_XSight_standPoints (l : Launch) (D : va_G) (tA : Nat → ClassId) (b : Nat) (sh : zSh) (n : Nat) {mm : zMem} {o : Nat} {x0_ : Nat} {r : zMem} (h : F_XSight_standPoints sh mm o x0_ = some r) : zM l D tA b zy_XSight_standPoints zb_XSight_standPoints 9 none 3 78 0 0 [.ref (b + o), .ref (b + x0_)] (zW tA b sh mm) n (zE none (zW tA b sh r) n) := by
  unfold F_XSight_standPoints at h
  refine zM_of (own := "OrreryBox$Sight") (plainFor_of_name (by decide)) rfl (Nat.le_of_ble_eq_true rfl) (fun p e s m below meth c F hr hin hH => ?_)
  refine zr_aload_n F zd_XSight_standPoints_0 rfl ?_
  obtain ⟨le2, hs1, h⟩ := zoS_s h
  obtain ⟨a3, ea3, h⟩ := zoB_s h
  refine zr_get F 9 9 zd_XSight_standPoints_1 (zW_o hs1 (by decide)) rfl (by decide) zw_382 rfl (by rfl) ?_
  refine zr_tor ea3 ?_
  refine zr_aload_n F zd_XSight_standPoints_4 rfl ?_
  obtain ⟨le5, hs4, h⟩ := zoS_s h
  obtain ⟨a6, ea6, h⟩ := zoB_s h
  refine zr_get F 9 10 zd_XSight_standPoints_5 (zW_o hs4 (by decide)) rfl (by decide) zw_383 rfl (by rfl) ?_
  refine zr_tor ea6 ?_
  refine zr_aload_n F zd_XSight_standPoints_8 rfl ?_
  obtain ⟨le8, hs7, h⟩ := zoS_s h
  refine zr_get F 9 12 zd_XSight_standPoints_9 (zW_o hs7 (by decide)) rfl (by decide) zw_385 rfl (by rfl) ?_
  obtain ⟨i9, ei9, h⟩ := zoL_s h
  rw [← ei9]
  obtain ⟨le11, hs10, h⟩ := zoS_s h
  obtain ⟨hi12, h⟩ := zoI_s h
  refine zr_iald F zd_XSight_standPoints_12 (zW_a0 hs10) hi12 ?_
  refine zr_pcn 13 rfl ?_
  obtain ⟨i13, ei13, h⟩ := zoL_s h
  rw [← ei13]
  obtain ⟨t17, le15, hs14, h⟩ := zoR_s h
  obtain ⟨hi16, h⟩ := zoI_s h
  obtain ⟨a18, ea18, h⟩ := zoB_s h
  refine zr_aaldW F zd_XSight_standPoints_13 hs14 hi16 ea18 ?_
  refine zr_astore_n F zd_XSight_standPoints_14 (by decide) ?_
  refine zr_aload_n F zd_XSight_standPoints_15 rfl ?_
  obtain ⟨le20, hs19, h⟩ := zoS_s h
  obtain ⟨a21, ea21, h⟩ := zoB_s h
  refine zr_get F 9 7 zd_XSight_standPoints_16 (zW_o hs19 (by decide)) rfl (by decide) zw_380 rfl (by rfl) ?_
  refine zr_tor ea21 ?_
  obtain ⟨le23, hs22, h⟩ := zoS_s h
  obtain ⟨a24, ea24, h⟩ := zoB_s h
  refine zr_get F 8 4 zd_XSight_standPoints_19 (zW_o hs22 (by decide)) rfl (by decide) zw_296 rfl (by rfl) ?_
  refine zr_tor ea24 ?_
  refine zr_aload_n F zd_XSight_standPoints_22 rfl ?_
  obtain ⟨le26, hs25, h⟩ := zoS_s h
  obtain ⟨a27, ea27, h⟩ := zoB_s h
  refine zr_get F 9 10 zd_XSight_standPoints_23 (zW_o hs25 (by decide)) rfl (by decide) zw_383 rfl (by rfl) ?_
  refine zr_tor ea27 ?_
  refine zr_aload_n F zd_XSight_standPoints_26 rfl ?_
  refine zr_pcn 27 rfl ?_
  obtain ⟨le29, hs28, h⟩ := zoS_s h
  refine zr_get F 9 12 zd_XSight_standPoints_27 (zW_o hs28 (by decide)) rfl (by decide) zw_385 rfl (by rfl) ?_
  obtain ⟨i30, ei30, h⟩ := zoL_s h
  rw [← ei30]
  obtain ⟨le32, hs31, h⟩ := zoS_s h
  obtain ⟨hi33, h⟩ := zoI_s h
  refine zr_iald F zd_XSight_standPoints_30 (zW_a0 hs31) hi33 ?_
  obtain ⟨i34, ei34, h⟩ := zoL_s h
  rw [← ei34]
  obtain ⟨t38, le36, hs35, h⟩ := zoR_s h
  obtain ⟨hi37, h⟩ := zoI_s h
  obtain ⟨a39, ea39, h⟩ := zoB_s h
  refine zr_aaldW F zd_XSight_standPoints_31 hs35 hi37 ea39 ?_
  obtain ⟨le41, hs40, h⟩ := zoS_s h
  obtain ⟨a42, ea42, h⟩ := zoB_s h
  refine zr_get F 3 5 zd_XSight_standPoints_32 (zW_o hs40 (by decide)) rfl (by decide) zw_230 rfl (by rfl) ?_
  refine zr_tor ea42 ?_
  refine zr_astore_n F zd_XSight_standPoints_35 (by decide) ?_
  refine zr_aload_n F zd_XSight_standPoints_36 rfl ?_
  obtain ⟨le44, hs43, h⟩ := zoS_s h
  obtain ⟨a45, ea45, h⟩ := zoB_s h
  refine zr_get F 2 3 zd_XSight_standPoints_37 (zW_o hs43 (by decide)) rfl (by decide) zw_184 rfl (by rfl) ?_
  refine zr_tor ea45 ?_
  refine zr_astore F zd_XSight_standPoints_40 (by decide) ?_
  refine zr_pcn 42 rfl ?_
  refine zr_iconstv (v := 0) F zd_XSight_standPoints_42 (by decide) ?_
  refine zr_istore F zd_XSight_standPoints_43 (by decide) ?_
  obtain ⟨q96, eq96, h⟩ := zoB_s h
  refine zr_loc (L' := [(0, .ref (b + o)), (1, .ref (b + x0_)), (2, .ref (b + a18)), (3, .ref (b + a42)), (4, .ref (b + a45)), (5, .int 0)]) ⟨rfl, rfl, rfl, rfl, rfl, rfl, trivial⟩ ?_
  refine lp_XSight_standPoints_45 F _ _ _ _ _ _ _ _ _ eq96 ?_
  ·
    obtain rfl := Option.some.inj h
    exact zr_vret F hr zd_XSight_standPoints_162 (Nat.le_of_ble_eq_true rfl) (Nat.le_of_ble_eq_true rfl) ⟨rfl, rfl, rfl⟩
abbrev zb_XSight_cutBySide : ByteArray := prog_10_method_14_code
def zy_XSight_cutBySide : MethodName := ⟨"OrreryBox$Sight", "cutBySide", "(I)V"⟩
theorem zc_XSight_cutBySide : Cond.code zy_XSight_cutBySide zb_XSight_cutBySide 11 none ∈ gw := gw_t 728 (by decide +kernel) rfl
theorem zq_XSight_cutBySide : zy_XSight_cutBySide.cls ≠ "java/lang/invoke/MethodHandle" ∧ zy_XSight_cutBySide.cls ≠ "java/lang/invoke/VarHandle" ∧ (parseMethodDescriptor zy_XSight_cutBySide.desc).map (fun d => d.parameters.length) = some 1 := by decide +kernel
theorem zd_XSight_cutBySide_0 : decode zb_XSight_cutBySide 0 = .ok (.aload_n 0, 1) := by decide +kernel
theorem zd_XSight_cutBySide_1 : decode zb_XSight_cutBySide 1 = .ok (.iload_n 1, 1) := by decide +kernel
theorem zd_XSight_cutBySide_2 : decode zb_XSight_cutBySide 2 = .ok (.iconst 0, 1) := by decide +kernel
theorem zd_XSight_cutBySide_3 : decode zb_XSight_cutBySide 3 = .ok (.invokevirtual 212, 3) := by decide +kernel
theorem zd_XSight_cutBySide_6 : decode zb_XSight_cutBySide 6 = .ok (.lstore_n 2, 1) := by decide +kernel
theorem zd_XSight_cutBySide_7 : decode zb_XSight_cutBySide 7 = .ok (.lload_n 2, 1) := by decide +kernel
theorem zd_XSight_cutBySide_8 : decode zb_XSight_cutBySide 8 = .ok (.lstore 4, 2) := by decide +kernel
theorem zd_XSight_cutBySide_10 : decode zb_XSight_cutBySide 10 = .ok (.iconst 0, 1) := by decide +kernel
theorem zd_XSight_cutBySide_11 : decode zb_XSight_cutBySide 11 = .ok (.istore 6, 2) := by decide +kernel
theorem zd_XSight_cutBySide_13 : decode zb_XSight_cutBySide 13 = .ok (.iconst 0, 1) := by decide +kernel
theorem zd_XSight_cutBySide_14 : decode zb_XSight_cutBySide 14 = .ok (.istore 7, 2) := by decide +kernel
theorem zd_XSight_cutBySide_16 : decode zb_XSight_cutBySide 16 = .ok (.iload 7, 2) := by decide +kernel
theorem zd_XSight_cutBySide_18 : decode zb_XSight_cutBySide 18 = .ok (.aload_n 0, 1) := by decide +kernel
theorem zd_XSight_cutBySide_19 : decode zb_XSight_cutBySide 19 = .ok (.getfield 62, 3) := by decide +kernel
theorem zd_XSight_cutBySide_22 : decode zb_XSight_cutBySide 22 = .ok (.if_icmp .ge 177, 3) := by decide +kernel
theorem zd_XSight_cutBySide_25 : decode zb_XSight_cutBySide 25 = .ok (.iload 6, 2) := by decide +kernel
theorem zd_XSight_cutBySide_27 : decode zb_XSight_cutBySide 27 = .ok (.iconst 2, 1) := by decide +kernel
theorem zd_XSight_cutBySide_28 : decode zb_XSight_cutBySide 28 = .ok (.iadd, 1) := by decide +kernel
theorem zd_XSight_cutBySide_29 : decode zb_XSight_cutBySide 29 = .ok (.bipush 24, 2) := by decide +kernel
theorem zd_XSight_cutBySide_31 : decode zb_XSight_cutBySide 31 = .ok (.if_icmp .gt 168, 3) := by decide +kernel
theorem zd_XSight_cutBySide_34 : decode zb_XSight_cutBySide 34 = .ok (.iload 7, 2) := by decide +kernel
theorem zd_XSight_cutBySide_36 : decode zb_XSight_cutBySide 36 = .ok (.iconst 1, 1) := by decide +kernel
theorem zd_XSight_cutBySide_37 : decode zb_XSight_cutBySide 37 = .ok (.iadd, 1) := by decide +kernel
theorem zd_XSight_cutBySide_38 : decode zb_XSight_cutBySide 38 = .ok (.aload_n 0, 1) := by decide +kernel
theorem zd_XSight_cutBySide_39 : decode zb_XSight_cutBySide 39 = .ok (.getfield 62, 3) := by decide +kernel
theorem zd_XSight_cutBySide_42 : decode zb_XSight_cutBySide 42 = .ok (.if_icmp .ge 10, 3) := by decide +kernel
theorem zd_XSight_cutBySide_45 : decode zb_XSight_cutBySide 45 = .ok (.iload 7, 2) := by decide +kernel
theorem zd_XSight_cutBySide_47 : decode zb_XSight_cutBySide 47 = .ok (.iconst 1, 1) := by decide +kernel
theorem zd_XSight_cutBySide_48 : decode zb_XSight_cutBySide 48 = .ok (.iadd, 1) := by decide +kernel
theorem zd_XSight_cutBySide_49 : decode zb_XSight_cutBySide 49 = .ok (.goto 4, 3) := by decide +kernel
theorem zd_XSight_cutBySide_52 : decode zb_XSight_cutBySide 52 = .ok (.iconst 0, 1) := by decide +kernel
theorem zd_XSight_cutBySide_53 : decode zb_XSight_cutBySide 53 = .ok (.istore 8, 2) := by decide +kernel
theorem zd_XSight_cutBySide_55 : decode zb_XSight_cutBySide 55 = .ok (.iload 8, 2) := by decide +kernel
theorem zd_XSight_cutBySide_57 : decode zb_XSight_cutBySide 57 = .ok (.ifCond .ne 7, 3) := by decide +kernel
theorem zd_XSight_cutBySide_60 : decode zb_XSight_cutBySide 60 = .ok (.lload_n 2, 1) := by decide +kernel
theorem zd_XSight_cutBySide_61 : decode zb_XSight_cutBySide 61 = .ok (.goto 10, 3) := by decide +kernel
theorem zd_XSight_cutBySide_64 : decode zb_XSight_cutBySide 64 = .ok (.aload_n 0, 1) := by decide +kernel
theorem zd_XSight_cutBySide_65 : decode zb_XSight_cutBySide 65 = .ok (.iload_n 1, 1) := by decide +kernel
theorem zd_XSight_cutBySide_66 : decode zb_XSight_cutBySide 66 = .ok (.iload 8, 2) := by decide +kernel
theorem zd_XSight_cutBySide_68 : decode zb_XSight_cutBySide 68 = .ok (.invokevirtual 212, 3) := by decide +kernel
theorem zd_XSight_cutBySide_71 : decode zb_XSight_cutBySide 71 = .ok (.lstore 9, 2) := by decide +kernel
theorem zd_XSight_cutBySide_73 : decode zb_XSight_cutBySide 73 = .ok (.lload 4, 2) := by decide +kernel
theorem zd_XSight_cutBySide_75 : decode zb_XSight_cutBySide 75 = .ok (.lconst 0, 1) := by decide +kernel
theorem zd_XSight_cutBySide_76 : decode zb_XSight_cutBySide 76 = .ok (.lcmp, 1) := by decide +kernel
theorem zd_XSight_cutBySide_77 : decode zb_XSight_cutBySide 77 = .ok (.ifCond .lt 29, 3) := by decide +kernel
theorem zd_XSight_cutBySide_80 : decode zb_XSight_cutBySide 80 = .ok (.aload_n 0, 1) := by decide +kernel
theorem zd_XSight_cutBySide_81 : decode zb_XSight_cutBySide 81 = .ok (.getfield 18, 3) := by decide +kernel
theorem zd_XSight_cutBySide_84 : decode zb_XSight_cutBySide 84 = .ok (.bipush 6, 2) := by decide +kernel
theorem zd_XSight_cutBySide_86 : decode zb_XSight_cutBySide 86 = .ok (.iload 7, 2) := by decide +kernel
theorem zd_XSight_cutBySide_88 : decode zb_XSight_cutBySide 88 = .ok (.imul, 1) := by decide +kernel
theorem zd_XSight_cutBySide_89 : decode zb_XSight_cutBySide 89 = .ok (.aload_n 0, 1) := by decide +kernel
theorem zd_XSight_cutBySide_90 : decode zb_XSight_cutBySide 90 = .ok (.getfield 39, 3) := by decide +kernel
theorem zd_XSight_cutBySide_93 : decode zb_XSight_cutBySide 93 = .ok (.bipush 6, 2) := by decide +kernel
theorem zd_XSight_cutBySide_95 : decode zb_XSight_cutBySide 95 = .ok (.iload 6, 2) := by decide +kernel
theorem zd_XSight_cutBySide_97 : decode zb_XSight_cutBySide 97 = .ok (.imul, 1) := by decide +kernel
theorem zd_XSight_cutBySide_98 : decode zb_XSight_cutBySide 98 = .ok (.bipush 6, 2) := by decide +kernel
theorem zd_XSight_cutBySide_100 : decode zb_XSight_cutBySide 100 = .ok (.invokestatic 197, 3) := by decide +kernel
theorem zd_XSight_cutBySide_103 : decode zb_XSight_cutBySide 103 = .ok (.iinc 6 1, 3) := by decide +kernel
theorem zd_XSight_cutBySide_106 : decode zb_XSight_cutBySide 106 = .ok (.lload 4, 2) := by decide +kernel
theorem zd_XSight_cutBySide_108 : decode zb_XSight_cutBySide 108 = .ok (.lconst 0, 1) := by decide +kernel
theorem zd_XSight_cutBySide_109 : decode zb_XSight_cutBySide 109 = .ok (.lcmp, 1) := by decide +kernel
theorem zd_XSight_cutBySide_110 : decode zb_XSight_cutBySide 110 = .ok (.ifCond .lt 39, 3) := by decide +kernel
theorem zd_XSight_cutBySide_113 : decode zb_XSight_cutBySide 113 = .ok (.lload 9, 2) := by decide +kernel
theorem zd_XSight_cutBySide_115 : decode zb_XSight_cutBySide 115 = .ok (.lconst 0, 1) := by decide +kernel
theorem zd_XSight_cutBySide_116 : decode zb_XSight_cutBySide 116 = .ok (.lcmp, 1) := by decide +kernel
theorem zd_XSight_cutBySide_117 : decode zb_XSight_cutBySide 117 = .ok (.ifCond .ge 32, 3) := by decide +kernel
theorem zd_XSight_cutBySide_120 : decode zb_XSight_cutBySide 120 = .ok (.aload_n 0, 1) := by decide +kernel
theorem zd_XSight_cutBySide_121 : decode zb_XSight_cutBySide 121 = .ok (.bipush 6, 2) := by decide +kernel
theorem zd_XSight_cutBySide_123 : decode zb_XSight_cutBySide 123 = .ok (.iload 7, 2) := by decide +kernel
theorem zd_XSight_cutBySide_125 : decode zb_XSight_cutBySide 125 = .ok (.imul, 1) := by decide +kernel
theorem zd_XSight_cutBySide_126 : decode zb_XSight_cutBySide 126 = .ok (.lload 4, 2) := by decide +kernel
theorem zd_XSight_cutBySide_128 : decode zb_XSight_cutBySide 128 = .ok (.bipush 6, 2) := by decide +kernel
theorem zd_XSight_cutBySide_130 : decode zb_XSight_cutBySide 130 = .ok (.iload 8, 2) := by decide +kernel
theorem zd_XSight_cutBySide_132 : decode zb_XSight_cutBySide 132 = .ok (.imul, 1) := by decide +kernel
theorem zd_XSight_cutBySide_133 : decode zb_XSight_cutBySide 133 = .ok (.lload 9, 2) := by decide +kernel
theorem zd_XSight_cutBySide_135 : decode zb_XSight_cutBySide 135 = .ok (.bipush 6, 2) := by decide +kernel
theorem zd_XSight_cutBySide_137 : decode zb_XSight_cutBySide 137 = .ok (.iload 6, 2) := by decide +kernel
theorem zd_XSight_cutBySide_139 : decode zb_XSight_cutBySide 139 = .ok (.imul, 1) := by decide +kernel
theorem zd_XSight_cutBySide_140 : decode zb_XSight_cutBySide 140 = .ok (.invokevirtual 216, 3) := by decide +kernel
theorem zd_XSight_cutBySide_143 : decode zb_XSight_cutBySide 143 = .ok (.iinc 6 1, 3) := by decide +kernel
theorem zd_XSight_cutBySide_146 : decode zb_XSight_cutBySide 146 = .ok (.goto 43, 3) := by decide +kernel
theorem zd_XSight_cutBySide_149 : decode zb_XSight_cutBySide 149 = .ok (.lload 4, 2) := by decide +kernel
theorem zd_XSight_cutBySide_151 : decode zb_XSight_cutBySide 151 = .ok (.lconst 0, 1) := by decide +kernel
theorem zd_XSight_cutBySide_152 : decode zb_XSight_cutBySide 152 = .ok (.lcmp, 1) := by decide +kernel
theorem zd_XSight_cutBySide_153 : decode zb_XSight_cutBySide 153 = .ok (.ifCond .ge 36, 3) := by decide +kernel
theorem zd_XSight_cutBySide_156 : decode zb_XSight_cutBySide 156 = .ok (.lload 9, 2) := by decide +kernel
theorem zd_XSight_cutBySide_158 : decode zb_XSight_cutBySide 158 = .ok (.lconst 0, 1) := by decide +kernel
theorem zd_XSight_cutBySide_159 : decode zb_XSight_cutBySide 159 = .ok (.lcmp, 1) := by decide +kernel
theorem zd_XSight_cutBySide_160 : decode zb_XSight_cutBySide 160 = .ok (.ifCond .lt 29, 3) := by decide +kernel
theorem zd_XSight_cutBySide_163 : decode zb_XSight_cutBySide 163 = .ok (.aload_n 0, 1) := by decide +kernel
theorem zd_XSight_cutBySide_164 : decode zb_XSight_cutBySide 164 = .ok (.bipush 6, 2) := by decide +kernel
theorem zd_XSight_cutBySide_166 : decode zb_XSight_cutBySide 166 = .ok (.iload 8, 2) := by decide +kernel
theorem zd_XSight_cutBySide_168 : decode zb_XSight_cutBySide 168 = .ok (.imul, 1) := by decide +kernel
theorem zd_XSight_cutBySide_169 : decode zb_XSight_cutBySide 169 = .ok (.lload 9, 2) := by decide +kernel
theorem zd_XSight_cutBySide_171 : decode zb_XSight_cutBySide 171 = .ok (.bipush 6, 2) := by decide +kernel
theorem zd_XSight_cutBySide_173 : decode zb_XSight_cutBySide 173 = .ok (.iload 7, 2) := by decide +kernel
theorem zd_XSight_cutBySide_175 : decode zb_XSight_cutBySide 175 = .ok (.imul, 1) := by decide +kernel
theorem zd_XSight_cutBySide_176 : decode zb_XSight_cutBySide 176 = .ok (.lload 4, 2) := by decide +kernel
theorem zd_XSight_cutBySide_178 : decode zb_XSight_cutBySide 178 = .ok (.bipush 6, 2) := by decide +kernel
theorem zd_XSight_cutBySide_180 : decode zb_XSight_cutBySide 180 = .ok (.iload 6, 2) := by decide +kernel
theorem zd_XSight_cutBySide_182 : decode zb_XSight_cutBySide 182 = .ok (.imul, 1) := by decide +kernel
theorem zd_XSight_cutBySide_183 : decode zb_XSight_cutBySide 183 = .ok (.invokevirtual 216, 3) := by decide +kernel
theorem zd_XSight_cutBySide_186 : decode zb_XSight_cutBySide 186 = .ok (.iinc 6 1, 3) := by decide +kernel
theorem zd_XSight_cutBySide_189 : decode zb_XSight_cutBySide 189 = .ok (.lload 9, 2) := by decide +kernel
theorem zd_XSight_cutBySide_191 : decode zb_XSight_cutBySide 191 = .ok (.lstore 4, 2) := by decide +kernel
theorem zd_XSight_cutBySide_193 : decode zb_XSight_cutBySide 193 = .ok (.iinc 7 1, 3) := by decide +kernel
theorem zd_XSight_cutBySide_196 : decode zb_XSight_cutBySide 196 = .ok (.goto (-180), 3) := by decide +kernel
theorem zd_XSight_cutBySide_199 : decode zb_XSight_cutBySide 199 = .ok (.aload_n 0, 1) := by decide +kernel
theorem zd_XSight_cutBySide_200 : decode zb_XSight_cutBySide 200 = .ok (.getfield 39, 3) := by decide +kernel
theorem zd_XSight_cutBySide_203 : decode zb_XSight_cutBySide 203 = .ok (.astore 7, 2) := by decide +kernel
theorem zd_XSight_cutBySide_205 : decode zb_XSight_cutBySide 205 = .ok (.aload_n 0, 1) := by decide +kernel
theorem zd_XSight_cutBySide_206 : decode zb_XSight_cutBySide 206 = .ok (.aload_n 0, 1) := by decide +kernel
theorem zd_XSight_cutBySide_207 : decode zb_XSight_cutBySide 207 = .ok (.getfield 18, 3) := by decide +kernel
theorem zd_XSight_cutBySide_210 : decode zb_XSight_cutBySide 210 = .ok (.putfield 39, 3) := by decide +kernel
theorem zd_XSight_cutBySide_213 : decode zb_XSight_cutBySide 213 = .ok (.aload_n 0, 1) := by decide +kernel
theorem zd_XSight_cutBySide_214 : decode zb_XSight_cutBySide 214 = .ok (.aload 7, 2) := by decide +kernel
theorem zd_XSight_cutBySide_216 : decode zb_XSight_cutBySide 216 = .ok (.putfield 18, 3) := by decide +kernel
theorem zd_XSight_cutBySide_219 : decode zb_XSight_cutBySide 219 = .ok (.aload_n 0, 1) := by decide +kernel
theorem zd_XSight_cutBySide_220 : decode zb_XSight_cutBySide 220 = .ok (.iload 6, 2) := by decide +kernel
theorem zd_XSight_cutBySide_222 : decode zb_XSight_cutBySide 222 = .ok (.putfield 62, 3) := by decide +kernel
theorem zd_XSight_cutBySide_225 : decode zb_XSight_cutBySide 225 = .ok (.return_, 1) := by decide +kernel
theorem zw_729 : (Jvm.Cond.methodLink "OrreryBox$Sight" (212 : Nat) ({ cls := "OrreryBox$Sight", name := "sideOf", desc := "(II)J" } : Jvm.MethodName)) ∈ gw := gw_t 729 (by decide +kernel) rfl
theorem zw_731 : (Jvm.Cond.instanceMethod ({ cls := "OrreryBox$Sight", name := "sideOf", desc := "(II)J" } : Jvm.MethodName)) ∈ gw := gw_t 731 (by decide +kernel) rfl
theorem zv_13 : (Jvm.Cond.selects "OrreryBox$Sight" (⟨"OrreryBox$Sight", "sideOf", "(II)J"⟩ : MethodName) ⟨"OrreryBox$Sight", "sideOf", "(II)J"⟩) ∈ gw := gw_s 13 (by decide +kernel) rfl
theorem zs_XSight_212 : zwV "OrreryBox$Sight" 212 "OrreryBox$Sight" zy_XSight_sideOf zb_XSight_sideOf 9 (some .long) := ⟨zw_729, zw_731, zv_13, zw_10, zc_XSight_sideOf⟩
theorem zw_734 : (Jvm.Cond.methodLink "OrreryBox$Sight" (216 : Nat) ({ cls := "OrreryBox$Sight", name := "putBetween", desc := "(IJIJI)V" } : Jvm.MethodName)) ∈ gw := gw_t 734 (by decide +kernel) rfl
theorem zw_736 : (Jvm.Cond.instanceMethod ({ cls := "OrreryBox$Sight", name := "putBetween", desc := "(IJIJI)V" } : Jvm.MethodName)) ∈ gw := gw_t 736 (by decide +kernel) rfl
theorem zv_14 : (Jvm.Cond.selects "OrreryBox$Sight" (⟨"OrreryBox$Sight", "putBetween", "(IJIJI)V"⟩ : MethodName) ⟨"OrreryBox$Sight", "putBetween", "(IJIJI)V"⟩) ∈ gw := gw_s 14 (by decide +kernel) rfl
theorem zs_XSight_216 : zwV "OrreryBox$Sight" 216 "OrreryBox$Sight" zy_XSight_putBetween zb_XSight_putBetween 13 none := ⟨zw_734, zw_736, zv_14, zw_10, zc_XSight_putBetween⟩
theorem zw_722 : (Jvm.Cond.methodLink "OrreryBox$Sight" (197 : Nat) ({ cls := "java/lang/System", name := "arraycopy", desc := "(Ljava/lang/Object;ILjava/lang/Object;II)V" } : Jvm.MethodName)) ∈ gw := gw_t 722 (by decide +kernel) rfl
def L_XSight_cutBySide_16 (sh : zSh) (fuel : Nat) (v0 : Nat) (v1 : Int32) (v2 : Int64) (v4 : Int64) (v6 : Int32) (v7 : Int32) (mm : zMem) : Option (Nat × Int32 × Int64 × Int64 × Int32 × Int32 × zMem) := match fuel with
  | 0 => none
  | fu + 1 => zoS (sh v0) 9 (fun le5 => (if (mm.1 v0 3) ≤ v7 then some (v0, v1, v2, v4, v6, v7, mm) else (if 24 < (v6 + 2) then some (v0, v1, v2, v4, v6, v7, mm) else zoS (sh v0) 9 (fun le9 => (if (mm.1 v0 3) ≤ (v7 + 1) then (if (lg_cmp v4 0) < 0 then (if (lg_cmp v4 0) < 0 then (if 0 ≤ (lg_cmp v4 0) then L_XSight_cutBySide_16 sh fu v0 v1 v2 v2 v6 (v7 + 1) mm else (if (lg_cmp v2 0) < 0 then L_XSight_cutBySide_16 sh fu v0 v1 v2 v2 v6 (v7 + 1) mm else zoS (sh v0) 9 (fun le16 => Option.bind (F_XSight_putBetween sh mm v0 (6 * 0) v2 (6 * v7) v4 (6 * v6)) (fun p17 => L_XSight_cutBySide_16 sh fu v0 v1 v2 v2 (v6 + 1) (v7 + 1) p17)))) else (if 0 ≤ (lg_cmp v2 0) then (if 0 ≤ (lg_cmp v4 0) then L_XSight_cutBySide_16 sh fu v0 v1 v2 v2 v6 (v7 + 1) mm else (if (lg_cmp v2 0) < 0 then L_XSight_cutBySide_16 sh fu v0 v1 v2 v2 v6 (v7 + 1) mm else zoS (sh v0) 9 (fun le22 => Option.bind (F_XSight_putBetween sh mm v0 (6 * 0) v2 (6 * v7) v4 (6 * v6)) (fun p23 => L_XSight_cutBySide_16 sh fu v0 v1 v2 v2 (v6 + 1) (v7 + 1) p23)))) else zoS (sh v0) 9 (fun le25 => Option.bind (F_XSight_putBetween sh mm v0 (6 * v7) v4 (6 * 0) v2 (6 * v6)) (fun p26 => L_XSight_cutBySide_16 sh fu v0 v1 v2 v2 (v6 + 1) (v7 + 1) p26)))) else zoS (sh v0) 9 (fun le28 => Option.bind (mm.2.2 v0 2) (fun a29 => zoS (sh v0) 9 (fun le31 => Option.bind (mm.2.2 v0 14) (fun a32 => zoL (6 * v6) (fun x33 => zoL (6 * v7) (fun x34 => zoS (sh a29) 100 (fun le35 => zoS (sh a32) 100 (fun le37 => if ¬ (x34 : Int32) < 0 ∧ ¬ (x33 : Int32) < 0 ∧ ¬ (6 : Int32) < 0 ∧ (x34 : Int32).toNatClampNeg + (6 : Int32).toNatClampNeg ≤ le35 ∧ (x33 : Int32).toNatClampNeg + (6 : Int32).toNatClampNeg ≤ le37 then zoL (mC mm a29 a32 (x34 : Int32).toNatClampNeg (x33 : Int32).toNatClampNeg (6 : Int32).toNatClampNeg) (fun mm40 => (if (lg_cmp v4 0) < 0 then (if 0 ≤ (lg_cmp v4 0) then L_XSight_cutBySide_16 sh fu v0 v1 v2 v2 (v6 + 1) (v7 + 1) mm40 else (if (lg_cmp v2 0) < 0 then L_XSight_cutBySide_16 sh fu v0 v1 v2 v2 (v6 + 1) (v7 + 1) mm40 else zoS (sh v0) 9 (fun le45 => Option.bind (F_XSight_putBetween sh mm40 v0 (6 * 0) v2 (6 * v7) v4 (6 * (v6 + 1))) (fun p46 => L_XSight_cutBySide_16 sh fu v0 v1 v2 v2 ((v6 + 1) + 1) (v7 + 1) p46)))) else (if 0 ≤ (lg_cmp v2 0) then (if 0 ≤ (lg_cmp v4 0) then L_XSight_cutBySide_16 sh fu v0 v1 v2 v2 (v6 + 1) (v7 + 1) mm40 else (if (lg_cmp v2 0) < 0 then L_XSight_cutBySide_16 sh fu v0 v1 v2 v2 (v6 + 1) (v7 + 1) mm40 else zoS (sh v0) 9 (fun le51 => Option.bind (F_XSight_putBetween sh mm40 v0 (6 * 0) v2 (6 * v7) v4 (6 * (v6 + 1))) (fun p52 => L_XSight_cutBySide_16 sh fu v0 v1 v2 v2 ((v6 + 1) + 1) (v7 + 1) p52)))) else zoS (sh v0) 9 (fun le54 => Option.bind (F_XSight_putBetween sh mm40 v0 (6 * v7) v4 (6 * 0) v2 (6 * (v6 + 1))) (fun p55 => L_XSight_cutBySide_16 sh fu v0 v1 v2 v2 ((v6 + 1) + 1) (v7 + 1) p55))))) else none))))))))) else zoL (v7 + 1) (fun x56 => (if x56 = 0 then (if (lg_cmp v4 0) < 0 then (if (lg_cmp v4 0) < 0 then (if 0 ≤ (lg_cmp v4 0) then L_XSight_cutBySide_16 sh fu v0 v1 v2 v2 v6 (v7 + 1) mm else (if (lg_cmp v2 0) < 0 then L_XSight_cutBySide_16 sh fu v0 v1 v2 v2 v6 (v7 + 1) mm else zoS (sh v0) 9 (fun le111 => Option.bind (F_XSight_putBetween sh mm v0 (6 * x56) v2 (6 * v7) v4 (6 * v6)) (fun p112 => L_XSight_cutBySide_16 sh fu v0 v1 v2 v2 (v6 + 1) (v7 + 1) p112)))) else (if 0 ≤ (lg_cmp v2 0) then (if 0 ≤ (lg_cmp v4 0) then L_XSight_cutBySide_16 sh fu v0 v1 v2 v2 v6 (v7 + 1) mm else (if (lg_cmp v2 0) < 0 then L_XSight_cutBySide_16 sh fu v0 v1 v2 v2 v6 (v7 + 1) mm else zoS (sh v0) 9 (fun le117 => Option.bind (F_XSight_putBetween sh mm v0 (6 * x56) v2 (6 * v7) v4 (6 * v6)) (fun p118 => L_XSight_cutBySide_16 sh fu v0 v1 v2 v2 (v6 + 1) (v7 + 1) p118)))) else zoS (sh v0) 9 (fun le120 => Option.bind (F_XSight_putBetween sh mm v0 (6 * v7) v4 (6 * x56) v2 (6 * v6)) (fun p121 => L_XSight_cutBySide_16 sh fu v0 v1 v2 v2 (v6 + 1) (v7 + 1) p121)))) else zoS (sh v0) 9 (fun le123 => Option.bind (mm.2.2 v0 2) (fun a124 => zoS (sh v0) 9 (fun le126 => Option.bind (mm.2.2 v0 14) (fun a127 => zoL (6 * v6) (fun x128 => zoL (6 * v7) (fun x129 => zoS (sh a124) 100 (fun le130 => zoS (sh a127) 100 (fun le132 => if ¬ (x129 : Int32) < 0 ∧ ¬ (x128 : Int32) < 0 ∧ ¬ (6 : Int32) < 0 ∧ (x129 : Int32).toNatClampNeg + (6 : Int32).toNatClampNeg ≤ le130 ∧ (x128 : Int32).toNatClampNeg + (6 : Int32).toNatClampNeg ≤ le132 then zoL (mC mm a124 a127 (x129 : Int32).toNatClampNeg (x128 : Int32).toNatClampNeg (6 : Int32).toNatClampNeg) (fun mm135 => (if (lg_cmp v4 0) < 0 then (if 0 ≤ (lg_cmp v4 0) then L_XSight_cutBySide_16 sh fu v0 v1 v2 v2 (v6 + 1) (v7 + 1) mm135 else (if (lg_cmp v2 0) < 0 then L_XSight_cutBySide_16 sh fu v0 v1 v2 v2 (v6 + 1) (v7 + 1) mm135 else zoS (sh v0) 9 (fun le140 => Option.bind (F_XSight_putBetween sh mm135 v0 (6 * x56) v2 (6 * v7) v4 (6 * (v6 + 1))) (fun p141 => L_XSight_cutBySide_16 sh fu v0 v1 v2 v2 ((v6 + 1) + 1) (v7 + 1) p141)))) else (if 0 ≤ (lg_cmp v2 0) then (if 0 ≤ (lg_cmp v4 0) then L_XSight_cutBySide_16 sh fu v0 v1 v2 v2 (v6 + 1) (v7 + 1) mm135 else (if (lg_cmp v2 0) < 0 then L_XSight_cutBySide_16 sh fu v0 v1 v2 v2 (v6 + 1) (v7 + 1) mm135 else zoS (sh v0) 9 (fun le146 => Option.bind (F_XSight_putBetween sh mm135 v0 (6 * x56) v2 (6 * v7) v4 (6 * (v6 + 1))) (fun p147 => L_XSight_cutBySide_16 sh fu v0 v1 v2 v2 ((v6 + 1) + 1) (v7 + 1) p147)))) else zoS (sh v0) 9 (fun le149 => Option.bind (F_XSight_putBetween sh mm135 v0 (6 * v7) v4 (6 * x56) v2 (6 * (v6 + 1))) (fun p150 => L_XSight_cutBySide_16 sh fu v0 v1 v2 v2 ((v6 + 1) + 1) (v7 + 1) p150))))) else none))))))))) else zoS (sh v0) 9 (fun le59 => Option.bind (F_XSight_sideOf sh mm v0 v1 x56) (fun p60 => (if (lg_cmp v4 0) < 0 then (if (lg_cmp v4 0) < 0 then (if 0 ≤ (lg_cmp v4 0) then L_XSight_cutBySide_16 sh fu v0 v1 v2 (p60.1) v6 (v7 + 1) (p60.2) else (if (lg_cmp p60.1 0) < 0 then L_XSight_cutBySide_16 sh fu v0 v1 v2 (p60.1) v6 (v7 + 1) (p60.2) else zoS (sh v0) 9 (fun le66 => Option.bind (F_XSight_putBetween sh (p60.2) v0 (6 * x56) (p60.1) (6 * v7) v4 (6 * v6)) (fun p67 => L_XSight_cutBySide_16 sh fu v0 v1 v2 (p60.1) (v6 + 1) (v7 + 1) p67)))) else (if 0 ≤ (lg_cmp p60.1 0) then (if 0 ≤ (lg_cmp v4 0) then L_XSight_cutBySide_16 sh fu v0 v1 v2 (p60.1) v6 (v7 + 1) (p60.2) else (if (lg_cmp p60.1 0) < 0 then L_XSight_cutBySide_16 sh fu v0 v1 v2 (p60.1) v6 (v7 + 1) (p60.2) else zoS (sh v0) 9 (fun le72 => Option.bind (F_XSight_putBetween sh (p60.2) v0 (6 * x56) (p60.1) (6 * v7) v4 (6 * v6)) (fun p73 => L_XSight_cutBySide_16 sh fu v0 v1 v2 (p60.1) (v6 + 1) (v7 + 1) p73)))) else zoS (sh v0) 9 (fun le75 => Option.bind (F_XSight_putBetween sh (p60.2) v0 (6 * v7) v4 (6 * x56) (p60.1) (6 * v6)) (fun p76 => L_XSight_cutBySide_16 sh fu v0 v1 v2 (p60.1) (v6 + 1) (v7 + 1) p76)))) else zoS (sh v0) 9 (fun le78 => Option.bind ((p60.2).2.2 v0 2) (fun a79 => zoS (sh v0) 9 (fun le81 => Option.bind ((p60.2).2.2 v0 14) (fun a82 => zoL (6 * v6) (fun x83 => zoL (6 * v7) (fun x84 => zoS (sh a79) 100 (fun le85 => zoS (sh a82) 100 (fun le87 => if ¬ (x84 : Int32) < 0 ∧ ¬ (x83 : Int32) < 0 ∧ ¬ (6 : Int32) < 0 ∧ (x84 : Int32).toNatClampNeg + (6 : Int32).toNatClampNeg ≤ le85 ∧ (x83 : Int32).toNatClampNeg + (6 : Int32).toNatClampNeg ≤ le87 then zoL (mC (p60.2) a79 a82 (x84 : Int32).toNatClampNeg (x83 : Int32).toNatClampNeg (6 : Int32).toNatClampNeg) (fun mm90 => (if (lg_cmp v4 0) < 0 then (if 0 ≤ (lg_cmp v4 0) then L_XSight_cutBySide_16 sh fu v0 v1 v2 (p60.1) (v6 + 1) (v7 + 1) mm90 else (if (lg_cmp p60.1 0) < 0 then L_XSight_cutBySide_16 sh fu v0 v1 v2 (p60.1) (v6 + 1) (v7 + 1) mm90 else zoS (sh v0) 9 (fun le95 => Option.bind (F_XSight_putBetween sh mm90 v0 (6 * x56) (p60.1) (6 * v7) v4 (6 * (v6 + 1))) (fun p96 => L_XSight_cutBySide_16 sh fu v0 v1 v2 (p60.1) ((v6 + 1) + 1) (v7 + 1) p96)))) else (if 0 ≤ (lg_cmp p60.1 0) then (if 0 ≤ (lg_cmp v4 0) then L_XSight_cutBySide_16 sh fu v0 v1 v2 (p60.1) (v6 + 1) (v7 + 1) mm90 else (if (lg_cmp p60.1 0) < 0 then L_XSight_cutBySide_16 sh fu v0 v1 v2 (p60.1) (v6 + 1) (v7 + 1) mm90 else zoS (sh v0) 9 (fun le101 => Option.bind (F_XSight_putBetween sh mm90 v0 (6 * x56) (p60.1) (6 * v7) v4 (6 * (v6 + 1))) (fun p102 => L_XSight_cutBySide_16 sh fu v0 v1 v2 (p60.1) ((v6 + 1) + 1) (v7 + 1) p102)))) else zoS (sh v0) 9 (fun le104 => Option.bind (F_XSight_putBetween sh mm90 v0 (6 * v7) v4 (6 * x56) (p60.1) (6 * (v6 + 1))) (fun p105 => L_XSight_cutBySide_16 sh fu v0 v1 v2 (p60.1) ((v6 + 1) + 1) (v7 + 1) p105))))) else none))))))))))))))))))
set_option maxHeartbeats 4000000 in
set_option maxRecDepth 100000 in
theorem lp_XSight_cutBySide_16 {p : Program} {l : Launch} {e : Env} {s : State} {m : MethodId} {args : Array Value} {below : List Frame} {meth : Method} {c : Code} {D : va_G} {tA : Nat → ClassId} {b n : Nat} {post : Option Value → zV → Nat → Prop} {sh : zSh} (F : zF p s m args meth c zb_XSight_cutBySide 11 "OrreryBox$Sight" D tA b) : ∀ (fuel : Nat) (v0 : Nat) (v1 : Int32) (v2 : Int64) (v4 : Int64) (v6 : Int32) (v7 : Int32) (mm : zMem) (r : Nat × Int32 × Int64 × Int64 × Int32 × Int32 × zMem), L_XSight_cutBySide_16 sh fuel v0 v1 v2 v4 v6 v7 mm = some r → (Z p l e { frames := 2, cells := 0, slots := 0, locals := 60 } s m args below meth c D b 11 (MQ below (zQ D b post) args s 0 0 (fun q => b ≤ q)) (zW tA b sh r.2.2.2.2.2.2) n 0 0 199 [(0, .ref (b + (r.1))), (1, .int (r.2.1)), (2, .long (r.2.2.1)), (4, .long (r.2.2.2.1)), (6, .int (r.2.2.2.2.1)), (7, .int (r.2.2.2.2.2.1))] []) → Z p l e { frames := 2, cells := 0, slots := 0, locals := 60 } s m args below meth c D b 11 (MQ below (zQ D b post) args s 0 0 (fun q => b ≤ q)) (zW tA b sh mm) n 0 0 16 [(0, .ref (b + v0)), (1, .int v1), (2, .long v2), (4, .long v4), (6, .int v6), (7, .int v7)] [] := by
  intro fuel
  induction fuel with
  | zero =>
    intro v0 v1 v2 v4 v6 v7 mm r h
    cases h
  | succ fu ih =>
    intro v0 v1 v2 v4 v6 v7 mm r h hx0
    rw [L_XSight_cutBySide_16] at h
    refine zr_iload F zd_XSight_cutBySide_16 rfl ?_
    refine zr_aload_n F zd_XSight_cutBySide_18 rfl ?_
    obtain ⟨le5, hs4, h⟩ := zoS_s h
    refine zr_get F 9 3 zd_XSight_cutBySide_19 (zW_o hs4 (by decide)) rfl (by decide) zw_376 rfl (by rfl) ?_
    refine zr_icmp_ge F 199 zd_XSight_cutBySide_22 (by decide) (fun hb6 => ?_) (fun hb6 => ?_)
    ·
      rw [if_pos hb6] at h
      obtain rfl := Option.some.inj h
      refine zr_loc (L' := [(0, .ref (b + v0)), (1, .int v1), (2, .long v2), (4, .long v4), (6, .int v6), (7, .int v7)]) ⟨rfl, rfl, rfl, rfl, rfl, rfl, trivial⟩ ?_
      exact hx0 
    ·
      rw [if_neg hb6] at h
      refine zr_pcn 25 rfl ?_
      refine zr_iload F zd_XSight_cutBySide_25 rfl ?_
      refine zr_iconstv (v := 2) F zd_XSight_cutBySide_27 (by decide) ?_
      refine zr_iadd F zd_XSight_cutBySide_28 ?_
      refine zr_bipushv (v := 24) F zd_XSight_cutBySide_29 (by decide) ?_
      refine zr_icmp_gt F 199 zd_XSight_cutBySide_31 (by decide) (fun hb7 => ?_) (fun hb7 => ?_)
      ·
        rw [if_pos hb7] at h
        obtain rfl := Option.some.inj h
        refine zr_loc (L' := [(0, .ref (b + v0)), (1, .int v1), (2, .long v2), (4, .long v4), (6, .int v6), (7, .int v7)]) ⟨rfl, rfl, rfl, rfl, rfl, rfl, trivial⟩ ?_
        exact hx0 
      ·
        rw [if_neg hb7] at h
        refine zr_iload F zd_XSight_cutBySide_34 rfl ?_
        refine zr_iconstv (v := 1) F zd_XSight_cutBySide_36 (by decide) ?_
        refine zr_iadd F zd_XSight_cutBySide_37 ?_
        refine zr_pcn 38 rfl ?_
        refine zr_aload_n F zd_XSight_cutBySide_38 rfl ?_
        obtain ⟨le9, hs8, h⟩ := zoS_s h
        refine zr_get F 9 3 zd_XSight_cutBySide_39 (zW_o hs8 (by decide)) rfl (by decide) zw_376 rfl (by rfl) ?_
        refine zr_icmp_ge F 52 zd_XSight_cutBySide_42 (by decide) (fun hb10 => ?_) (fun hb10 => ?_)
        ·
          rw [if_pos hb10] at h
          refine zr_iconstv (v := 0) F zd_XSight_cutBySide_52 (by decide) ?_
          refine zr_istore F zd_XSight_cutBySide_53 (by decide) ?_
          refine zr_iload F zd_XSight_cutBySide_55 rfl ?_
          refine zr_if_ne F 64 zd_XSight_cutBySide_57 (by decide) (fun hq => absurd hq (by decide)) (fun _ => ?_)
          refine zr_lload_n F zd_XSight_cutBySide_60 rfl ?_
          refine zr_pcn 61 rfl ?_
          refine zr_goto F 71 zd_XSight_cutBySide_61 (by decide) ?_
          refine zr_lstore F zd_XSight_cutBySide_71 (by decide) ?_
          refine zr_lload F zd_XSight_cutBySide_73 rfl ?_
          refine zr_lconstv (v := 0) F zd_XSight_cutBySide_75 (by decide) ?_
          refine zr_lcmp F zd_XSight_cutBySide_76 ?_
          refine zr_if_lt F 106 zd_XSight_cutBySide_77 (by decide) (fun hb11 => ?_) (fun hb11 => ?_)
          ·
            rw [if_pos hb11] at h
            refine zr_lload F zd_XSight_cutBySide_106 rfl ?_
            refine zr_lconstv (v := 0) F zd_XSight_cutBySide_108 (by decide) ?_
            refine zr_pcn 109 rfl ?_
            refine zr_lcmp F zd_XSight_cutBySide_109 ?_
            refine zr_if_lt F 149 zd_XSight_cutBySide_110 (by decide) (fun hb12 => ?_) (fun hb12 => ?_)
            ·
              rw [if_pos hb12] at h
              refine zr_lload F zd_XSight_cutBySide_149 rfl ?_
              refine zr_lconstv (v := 0) F zd_XSight_cutBySide_151 (by decide) ?_
              refine zr_lcmp F zd_XSight_cutBySide_152 ?_
              refine zr_if_ge F 189 zd_XSight_cutBySide_153 (by decide) (fun hb13 => ?_) (fun hb13 => ?_)
              ·
                rw [if_pos hb13] at h
                refine zr_lload F zd_XSight_cutBySide_189 rfl ?_
                refine zr_lstore F zd_XSight_cutBySide_191 (by decide) ?_
                refine zr_pcn 193 rfl ?_
                refine zr_iinc (v := (v7 + 1)) F zd_XSight_cutBySide_193 rfl rfl (by decide) ?_
                refine zr_goto F 16 zd_XSight_cutBySide_196 (by decide) ?_
                refine zr_loc (L' := [(0, .ref (b + v0)), (1, .int v1), (2, .long v2), (4, .long v2), (6, .int v6), (7, .int (v7 + 1))]) ⟨rfl, rfl, rfl, rfl, rfl, rfl, trivial⟩ ?_
                exact ih _ _ _ _ _ _ _ _ h hx0
              ·
                rw [if_neg hb13] at h
                refine zr_lload F zd_XSight_cutBySide_156 rfl ?_
                refine zr_lconstv (v := 0) F zd_XSight_cutBySide_158 (by decide) ?_
                refine zr_lcmp F zd_XSight_cutBySide_159 ?_
                refine zr_if_lt F 189 zd_XSight_cutBySide_160 (by decide) (fun hb14 => ?_) (fun hb14 => ?_)
                ·
                  rw [if_pos hb14] at h
                  refine zr_lload F zd_XSight_cutBySide_189 rfl ?_
                  refine zr_lstore F zd_XSight_cutBySide_191 (by decide) ?_
                  refine zr_pcn 193 rfl ?_
                  refine zr_iinc (v := (v7 + 1)) F zd_XSight_cutBySide_193 rfl rfl (by decide) ?_
                  refine zr_goto F 16 zd_XSight_cutBySide_196 (by decide) ?_
                  refine zr_loc (L' := [(0, .ref (b + v0)), (1, .int v1), (2, .long v2), (4, .long v2), (6, .int v6), (7, .int (v7 + 1))]) ⟨rfl, rfl, rfl, rfl, rfl, rfl, trivial⟩ ?_
                  exact ih _ _ _ _ _ _ _ _ h hx0
                ·
                  rw [if_neg hb14] at h
                  refine zr_aload_n F zd_XSight_cutBySide_163 rfl ?_
                  refine zr_bipushv (v := 6) F zd_XSight_cutBySide_164 (by decide) ?_
                  refine zr_iload F zd_XSight_cutBySide_166 rfl ?_
                  refine zr_imul F zd_XSight_cutBySide_168 ?_
                  refine zr_lload F zd_XSight_cutBySide_169 rfl ?_
                  refine zr_bipushv (v := 6) F zd_XSight_cutBySide_171 (by decide) ?_
                  refine zr_pcn 173 rfl ?_
                  refine zr_iload F zd_XSight_cutBySide_173 rfl ?_
                  refine zr_imul F zd_XSight_cutBySide_175 ?_
                  refine zr_lload F zd_XSight_cutBySide_176 rfl ?_
                  refine zr_bipushv (v := 6) F zd_XSight_cutBySide_178 (by decide) ?_
                  refine zr_iload F zd_XSight_cutBySide_180 rfl ?_
                  refine zr_imul F zd_XSight_cutBySide_182 ?_
                  obtain ⟨le16, hs15, h⟩ := zoS_s h
                  obtain ⟨p17, ep17, h⟩ := zoB_s h
                  refine zr_callV0 F (k_XSight_putBetween l D tA b sh _ ep17) zd_XSight_cutBySide_183 (zW_o hs15 (by decide)) rfl zs_XSight_216 rfl zq_XSight_putBetween rfl rfl ⟨(Nat.le_of_ble_eq_true rfl), (Nat.le_of_ble_eq_true rfl)⟩ (Nat.le_of_ble_eq_true rfl) ⟨(Nat.le_of_ble_eq_true rfl), (Nat.le_of_ble_eq_true rfl)⟩ ?_
                  refine zr_iinc (v := (v6 + 1)) F zd_XSight_cutBySide_186 rfl rfl (by decide) ?_
                  refine zr_pcn 189 rfl ?_
                  refine zr_lload F zd_XSight_cutBySide_189 rfl ?_
                  refine zr_lstore F zd_XSight_cutBySide_191 (by decide) ?_
                  refine zr_iinc (v := (v7 + 1)) F zd_XSight_cutBySide_193 rfl rfl (by decide) ?_
                  refine zr_goto F 16 zd_XSight_cutBySide_196 (by decide) ?_
                  refine zr_loc (L' := [(0, .ref (b + v0)), (1, .int v1), (2, .long v2), (4, .long v2), (6, .int (v6 + 1)), (7, .int (v7 + 1))]) ⟨rfl, rfl, rfl, rfl, rfl, rfl, trivial⟩ ?_
                  exact ih _ _ _ _ _ _ _ _ h hx0
            ·
              rw [if_neg hb12] at h
              refine zr_lload F zd_XSight_cutBySide_113 rfl ?_
              refine zr_lconstv (v := 0) F zd_XSight_cutBySide_115 (by decide) ?_
              refine zr_lcmp F zd_XSight_cutBySide_116 ?_
              refine zr_if_ge F 149 zd_XSight_cutBySide_117 (by decide) (fun hb18 => ?_) (fun hb18 => ?_)
              ·
                rw [if_pos hb18] at h
                refine zr_pcn 149 rfl ?_
                refine zr_lload F zd_XSight_cutBySide_149 rfl ?_
                refine zr_lconstv (v := 0) F zd_XSight_cutBySide_151 (by decide) ?_
                refine zr_lcmp F zd_XSight_cutBySide_152 ?_
                refine zr_if_ge F 189 zd_XSight_cutBySide_153 (by decide) (fun hb19 => ?_) (fun hb19 => ?_)
                ·
                  rw [if_pos hb19] at h
                  refine zr_lload F zd_XSight_cutBySide_189 rfl ?_
                  refine zr_lstore F zd_XSight_cutBySide_191 (by decide) ?_
                  refine zr_iinc (v := (v7 + 1)) F zd_XSight_cutBySide_193 rfl rfl (by decide) ?_
                  refine zr_goto F 16 zd_XSight_cutBySide_196 (by decide) ?_
                  refine zr_loc (L' := [(0, .ref (b + v0)), (1, .int v1), (2, .long v2), (4, .long v2), (6, .int v6), (7, .int (v7 + 1))]) ⟨rfl, rfl, rfl, rfl, rfl, rfl, trivial⟩ ?_
                  exact ih _ _ _ _ _ _ _ _ h hx0
                ·
                  rw [if_neg hb19] at h
                  refine zr_pcn 156 rfl ?_
                  refine zr_lload F zd_XSight_cutBySide_156 rfl ?_
                  refine zr_lconstv (v := 0) F zd_XSight_cutBySide_158 (by decide) ?_
                  refine zr_lcmp F zd_XSight_cutBySide_159 ?_
                  refine zr_if_lt F 189 zd_XSight_cutBySide_160 (by decide) (fun hb20 => ?_) (fun hb20 => ?_)
                  ·
                    rw [if_pos hb20] at h
                    refine zr_lload F zd_XSight_cutBySide_189 rfl ?_
                    refine zr_lstore F zd_XSight_cutBySide_191 (by decide) ?_
                    refine zr_iinc (v := (v7 + 1)) F zd_XSight_cutBySide_193 rfl rfl (by decide) ?_
                    refine zr_goto F 16 zd_XSight_cutBySide_196 (by decide) ?_
                    refine zr_loc (L' := [(0, .ref (b + v0)), (1, .int v1), (2, .long v2), (4, .long v2), (6, .int v6), (7, .int (v7 + 1))]) ⟨rfl, rfl, rfl, rfl, rfl, rfl, trivial⟩ ?_
                    exact ih _ _ _ _ _ _ _ _ h hx0
                  ·
                    rw [if_neg hb20] at h
                    refine zr_pcn 163 rfl ?_
                    refine zr_aload_n F zd_XSight_cutBySide_163 rfl ?_
                    refine zr_bipushv (v := 6) F zd_XSight_cutBySide_164 (by decide) ?_
                    refine zr_iload F zd_XSight_cutBySide_166 rfl ?_
                    refine zr_imul F zd_XSight_cutBySide_168 ?_
                    refine zr_lload F zd_XSight_cutBySide_169 rfl ?_
                    refine zr_bipushv (v := 6) F zd_XSight_cutBySide_171 (by decide) ?_
                    refine zr_iload F zd_XSight_cutBySide_173 rfl ?_
                    refine zr_imul F zd_XSight_cutBySide_175 ?_
                    refine zr_pcn 176 rfl ?_
                    refine zr_lload F zd_XSight_cutBySide_176 rfl ?_
                    refine zr_bipushv (v := 6) F zd_XSight_cutBySide_178 (by decide) ?_
                    refine zr_iload F zd_XSight_cutBySide_180 rfl ?_
                    refine zr_imul F zd_XSight_cutBySide_182 ?_
                    obtain ⟨le22, hs21, h⟩ := zoS_s h
                    obtain ⟨p23, ep23, h⟩ := zoB_s h
                    refine zr_callV0 F (k_XSight_putBetween l D tA b sh _ ep23) zd_XSight_cutBySide_183 (zW_o hs21 (by decide)) rfl zs_XSight_216 rfl zq_XSight_putBetween rfl rfl ⟨(Nat.le_of_ble_eq_true rfl), (Nat.le_of_ble_eq_true rfl)⟩ (Nat.le_of_ble_eq_true rfl) ⟨(Nat.le_of_ble_eq_true rfl), (Nat.le_of_ble_eq_true rfl)⟩ ?_
                    refine zr_iinc (v := (v6 + 1)) F zd_XSight_cutBySide_186 rfl rfl (by decide) ?_
                    refine zr_lload F zd_XSight_cutBySide_189 rfl ?_
                    refine zr_lstore F zd_XSight_cutBySide_191 (by decide) ?_
                    refine zr_pcn 193 rfl ?_
                    refine zr_iinc (v := (v7 + 1)) F zd_XSight_cutBySide_193 rfl rfl (by decide) ?_
                    refine zr_goto F 16 zd_XSight_cutBySide_196 (by decide) ?_
                    refine zr_loc (L' := [(0, .ref (b + v0)), (1, .int v1), (2, .long v2), (4, .long v2), (6, .int (v6 + 1)), (7, .int (v7 + 1))]) ⟨rfl, rfl, rfl, rfl, rfl, rfl, trivial⟩ ?_
                    exact ih _ _ _ _ _ _ _ _ h hx0
              ·
                rw [if_neg hb18] at h
                refine zr_aload_n F zd_XSight_cutBySide_120 rfl ?_
                refine zr_bipushv (v := 6) F zd_XSight_cutBySide_121 (by decide) ?_
                refine zr_iload F zd_XSight_cutBySide_123 rfl ?_
                refine zr_imul F zd_XSight_cutBySide_125 ?_
                refine zr_lload F zd_XSight_cutBySide_126 rfl ?_
                refine zr_bipushv (v := 6) F zd_XSight_cutBySide_128 (by decide) ?_
                refine zr_pcn 130 rfl ?_
                refine zr_iload F zd_XSight_cutBySide_130 rfl ?_
                refine zr_imul F zd_XSight_cutBySide_132 ?_
                refine zr_lload F zd_XSight_cutBySide_133 rfl ?_
                refine zr_bipushv (v := 6) F zd_XSight_cutBySide_135 (by decide) ?_
                refine zr_iload F zd_XSight_cutBySide_137 rfl ?_
                refine zr_imul F zd_XSight_cutBySide_139 ?_
                obtain ⟨le25, hs24, h⟩ := zoS_s h
                obtain ⟨p26, ep26, h⟩ := zoB_s h
                refine zr_callV0 F (k_XSight_putBetween l D tA b sh _ ep26) zd_XSight_cutBySide_140 (zW_o hs24 (by decide)) rfl zs_XSight_216 rfl zq_XSight_putBetween rfl rfl ⟨(Nat.le_of_ble_eq_true rfl), (Nat.le_of_ble_eq_true rfl)⟩ (Nat.le_of_ble_eq_true rfl) ⟨(Nat.le_of_ble_eq_true rfl), (Nat.le_of_ble_eq_true rfl)⟩ ?_
                refine zr_iinc (v := (v6 + 1)) F zd_XSight_cutBySide_143 rfl rfl (by decide) ?_
                refine zr_pcn 146 rfl ?_
                refine zr_goto F 189 zd_XSight_cutBySide_146 (by decide) ?_
                refine zr_lload F zd_XSight_cutBySide_189 rfl ?_
                refine zr_lstore F zd_XSight_cutBySide_191 (by decide) ?_
                refine zr_iinc (v := (v7 + 1)) F zd_XSight_cutBySide_193 rfl rfl (by decide) ?_
                refine zr_goto F 16 zd_XSight_cutBySide_196 (by decide) ?_
                refine zr_loc (L' := [(0, .ref (b + v0)), (1, .int v1), (2, .long v2), (4, .long v2), (6, .int (v6 + 1)), (7, .int (v7 + 1))]) ⟨rfl, rfl, rfl, rfl, rfl, rfl, trivial⟩ ?_
                exact ih _ _ _ _ _ _ _ _ h hx0
          ·
            rw [if_neg hb11] at h
            refine zr_aload_n F zd_XSight_cutBySide_80 rfl ?_
            obtain ⟨le28, hs27, h⟩ := zoS_s h
            obtain ⟨a29, ea29, h⟩ := zoB_s h
            refine zr_get F 9 2 zd_XSight_cutBySide_81 (zW_o hs27 (by decide)) rfl (by decide) zw_375 rfl (by rfl) ?_
            refine zr_tor ea29 ?_
            refine zr_bipushv (v := 6) F zd_XSight_cutBySide_84 (by decide) ?_
            refine zr_pcn 86 rfl ?_
            refine zr_iload F zd_XSight_cutBySide_86 rfl ?_
            refine zr_imul F zd_XSight_cutBySide_88 ?_
            refine zr_aload_n F zd_XSight_cutBySide_89 rfl ?_
            obtain ⟨le31, hs30, h⟩ := zoS_s h
            obtain ⟨a32, ea32, h⟩ := zoB_s h
            refine zr_get F 9 14 zd_XSight_cutBySide_90 (zW_o hs30 (by decide)) rfl (by decide) zw_387 rfl (by rfl) ?_
            refine zr_tor ea32 ?_
            refine zr_bipushv (v := 6) F zd_XSight_cutBySide_93 (by decide) ?_
            refine zr_iload F zd_XSight_cutBySide_95 rfl ?_
            refine zr_imul F zd_XSight_cutBySide_97 ?_
            refine zr_bipushv (v := 6) F zd_XSight_cutBySide_98 (by decide) ?_
            refine zr_pcn 100 rfl ?_
            obtain ⟨x33, ex33, h⟩ := zoL_s h
            rw [← ex33]
            obtain ⟨x34, ex34, h⟩ := zoL_s h
            rw [← ex34]
            obtain ⟨le35, hs36, h⟩ := zoS_s h
            obtain ⟨le37, hs38, h⟩ := zoS_s h
            obtain ⟨hc39, h⟩ := zoT_s h
            obtain ⟨mm40, emm40, h⟩ := zoL_s h
            refine zr_copy F zd_XSight_cutBySide_100 zw_722 zw_724 zw_723 zw_26 (zW_a0 hs36) (zW_a0 hs38) hc39.1 hc39.2.1 hc39.2.2.1 hc39.2.2.2.1 hc39.2.2.2.2 (Nat.le_of_ble_eq_true rfl) (Nat.le_of_ble_eq_true rfl) ?_
            refine zr_norm (zW tA b sh mm40) _ (by rw [emm40]; exact zW_c hs38) rfl ?_
            refine zr_iinc (v := (v6 + 1)) F zd_XSight_cutBySide_103 rfl rfl (by decide) ?_
            refine zr_lload F zd_XSight_cutBySide_106 rfl ?_
            refine zr_lconstv (v := 0) F zd_XSight_cutBySide_108 (by decide) ?_
            refine zr_lcmp F zd_XSight_cutBySide_109 ?_
            refine zr_if_lt F 149 zd_XSight_cutBySide_110 (by decide) (fun hb41 => ?_) (fun hb41 => ?_)
            ·
              rw [if_pos hb41] at h
              refine zr_lload F zd_XSight_cutBySide_149 rfl ?_
              refine zr_lconstv (v := 0) F zd_XSight_cutBySide_151 (by decide) ?_
              refine zr_pcn 152 rfl ?_
              refine zr_lcmp F zd_XSight_cutBySide_152 ?_
              refine zr_if_ge F 189 zd_XSight_cutBySide_153 (by decide) (fun hb42 => ?_) (fun hb42 => ?_)
              ·
                rw [if_pos hb42] at h
                refine zr_lload F zd_XSight_cutBySide_189 rfl ?_
                refine zr_lstore F zd_XSight_cutBySide_191 (by decide) ?_
                refine zr_iinc (v := (v7 + 1)) F zd_XSight_cutBySide_193 rfl rfl (by decide) ?_
                refine zr_goto F 16 zd_XSight_cutBySide_196 (by decide) ?_
                refine zr_loc (L' := [(0, .ref (b + v0)), (1, .int v1), (2, .long v2), (4, .long v2), (6, .int (v6 + 1)), (7, .int (v7 + 1))]) ⟨rfl, rfl, rfl, rfl, rfl, rfl, trivial⟩ ?_
                exact ih _ _ _ _ _ _ _ _ h hx0
              ·
                rw [if_neg hb42] at h
                refine zr_lload F zd_XSight_cutBySide_156 rfl ?_
                refine zr_lconstv (v := 0) F zd_XSight_cutBySide_158 (by decide) ?_
                refine zr_pcn 159 rfl ?_
                refine zr_lcmp F zd_XSight_cutBySide_159 ?_
                refine zr_if_lt F 189 zd_XSight_cutBySide_160 (by decide) (fun hb43 => ?_) (fun hb43 => ?_)
                ·
                  rw [if_pos hb43] at h
                  refine zr_lload F zd_XSight_cutBySide_189 rfl ?_
                  refine zr_lstore F zd_XSight_cutBySide_191 (by decide) ?_
                  refine zr_iinc (v := (v7 + 1)) F zd_XSight_cutBySide_193 rfl rfl (by decide) ?_
                  refine zr_goto F 16 zd_XSight_cutBySide_196 (by decide) ?_
                  refine zr_loc (L' := [(0, .ref (b + v0)), (1, .int v1), (2, .long v2), (4, .long v2), (6, .int (v6 + 1)), (7, .int (v7 + 1))]) ⟨rfl, rfl, rfl, rfl, rfl, rfl, trivial⟩ ?_
                  exact ih _ _ _ _ _ _ _ _ h hx0
                ·
                  rw [if_neg hb43] at h
                  refine zr_aload_n F zd_XSight_cutBySide_163 rfl ?_
                  refine zr_bipushv (v := 6) F zd_XSight_cutBySide_164 (by decide) ?_
                  refine zr_pcn 166 rfl ?_
                  refine zr_iload F zd_XSight_cutBySide_166 rfl ?_
                  refine zr_imul F zd_XSight_cutBySide_168 ?_
                  refine zr_lload F zd_XSight_cutBySide_169 rfl ?_
                  refine zr_bipushv (v := 6) F zd_XSight_cutBySide_171 (by decide) ?_
                  refine zr_iload F zd_XSight_cutBySide_173 rfl ?_
                  refine zr_imul F zd_XSight_cutBySide_175 ?_
                  refine zr_lload F zd_XSight_cutBySide_176 rfl ?_
                  refine zr_bipushv (v := 6) F zd_XSight_cutBySide_178 (by decide) ?_
                  refine zr_pcn 180 rfl ?_
                  refine zr_iload F zd_XSight_cutBySide_180 rfl ?_
                  refine zr_imul F zd_XSight_cutBySide_182 ?_
                  obtain ⟨le45, hs44, h⟩ := zoS_s h
                  obtain ⟨p46, ep46, h⟩ := zoB_s h
                  refine zr_callV0 F (k_XSight_putBetween l D tA b sh _ ep46) zd_XSight_cutBySide_183 (zW_o hs44 (by decide)) rfl zs_XSight_216 rfl zq_XSight_putBetween rfl rfl ⟨(Nat.le_of_ble_eq_true rfl), (Nat.le_of_ble_eq_true rfl)⟩ (Nat.le_of_ble_eq_true rfl) ⟨(Nat.le_of_ble_eq_true rfl), (Nat.le_of_ble_eq_true rfl)⟩ ?_
                  refine zr_iinc (v := ((v6 + 1) + 1)) F zd_XSight_cutBySide_186 rfl rfl (by decide) ?_
                  refine zr_lload F zd_XSight_cutBySide_189 rfl ?_
                  refine zr_lstore F zd_XSight_cutBySide_191 (by decide) ?_
                  refine zr_iinc (v := (v7 + 1)) F zd_XSight_cutBySide_193 rfl rfl (by decide) ?_
                  refine zr_goto F 16 zd_XSight_cutBySide_196 (by decide) ?_
                  refine zr_loc (L' := [(0, .ref (b + v0)), (1, .int v1), (2, .long v2), (4, .long v2), (6, .int ((v6 + 1) + 1)), (7, .int (v7 + 1))]) ⟨rfl, rfl, rfl, rfl, rfl, rfl, trivial⟩ ?_
                  exact ih _ _ _ _ _ _ _ _ h hx0
            ·
              rw [if_neg hb41] at h
              refine zr_pcn 113 rfl ?_
              refine zr_lload F zd_XSight_cutBySide_113 rfl ?_
              refine zr_lconstv (v := 0) F zd_XSight_cutBySide_115 (by decide) ?_
              refine zr_lcmp F zd_XSight_cutBySide_116 ?_
              refine zr_if_ge F 149 zd_XSight_cutBySide_117 (by decide) (fun hb47 => ?_) (fun hb47 => ?_)
              ·
                rw [if_pos hb47] at h
                refine zr_lload F zd_XSight_cutBySide_149 rfl ?_
                refine zr_lconstv (v := 0) F zd_XSight_cutBySide_151 (by decide) ?_
                refine zr_lcmp F zd_XSight_cutBySide_152 ?_
                refine zr_if_ge F 189 zd_XSight_cutBySide_153 (by decide) (fun hb48 => ?_) (fun hb48 => ?_)
                ·
                  rw [if_pos hb48] at h
                  refine zr_pcn 189 rfl ?_
                  refine zr_lload F zd_XSight_cutBySide_189 rfl ?_
                  refine zr_lstore F zd_XSight_cutBySide_191 (by decide) ?_
                  refine zr_iinc (v := (v7 + 1)) F zd_XSight_cutBySide_193 rfl rfl (by decide) ?_
                  refine zr_goto F 16 zd_XSight_cutBySide_196 (by decide) ?_
                  refine zr_loc (L' := [(0, .ref (b + v0)), (1, .int v1), (2, .long v2), (4, .long v2), (6, .int (v6 + 1)), (7, .int (v7 + 1))]) ⟨rfl, rfl, rfl, rfl, rfl, rfl, trivial⟩ ?_
                  exact ih _ _ _ _ _ _ _ _ h hx0
                ·
                  rw [if_neg hb48] at h
                  refine zr_lload F zd_XSight_cutBySide_156 rfl ?_
                  refine zr_lconstv (v := 0) F zd_XSight_cutBySide_158 (by decide) ?_
                  refine zr_lcmp F zd_XSight_cutBySide_159 ?_
                  refine zr_if_lt F 189 zd_XSight_cutBySide_160 (by decide) (fun hb49 => ?_) (fun hb49 => ?_)
                  ·
                    rw [if_pos hb49] at h
                    refine zr_pcn 189 rfl ?_
                    refine zr_lload F zd_XSight_cutBySide_189 rfl ?_
                    refine zr_lstore F zd_XSight_cutBySide_191 (by decide) ?_
                    refine zr_iinc (v := (v7 + 1)) F zd_XSight_cutBySide_193 rfl rfl (by decide) ?_
                    refine zr_goto F 16 zd_XSight_cutBySide_196 (by decide) ?_
                    refine zr_loc (L' := [(0, .ref (b + v0)), (1, .int v1), (2, .long v2), (4, .long v2), (6, .int (v6 + 1)), (7, .int (v7 + 1))]) ⟨rfl, rfl, rfl, rfl, rfl, rfl, trivial⟩ ?_
                    exact ih _ _ _ _ _ _ _ _ h hx0
                  ·
                    rw [if_neg hb49] at h
                    refine zr_aload_n F zd_XSight_cutBySide_163 rfl ?_
                    refine zr_bipushv (v := 6) F zd_XSight_cutBySide_164 (by decide) ?_
                    refine zr_iload F zd_XSight_cutBySide_166 rfl ?_
                    refine zr_imul F zd_XSight_cutBySide_168 ?_
                    refine zr_pcn 169 rfl ?_
                    refine zr_lload F zd_XSight_cutBySide_169 rfl ?_
                    refine zr_bipushv (v := 6) F zd_XSight_cutBySide_171 (by decide) ?_
                    refine zr_iload F zd_XSight_cutBySide_173 rfl ?_
                    refine zr_imul F zd_XSight_cutBySide_175 ?_
                    refine zr_lload F zd_XSight_cutBySide_176 rfl ?_
                    refine zr_bipushv (v := 6) F zd_XSight_cutBySide_178 (by decide) ?_
                    refine zr_iload F zd_XSight_cutBySide_180 rfl ?_
                    refine zr_imul F zd_XSight_cutBySide_182 ?_
                    refine zr_pcn 183 rfl ?_
                    obtain ⟨le51, hs50, h⟩ := zoS_s h
                    obtain ⟨p52, ep52, h⟩ := zoB_s h
                    refine zr_callV0 F (k_XSight_putBetween l D tA b sh _ ep52) zd_XSight_cutBySide_183 (zW_o hs50 (by decide)) rfl zs_XSight_216 rfl zq_XSight_putBetween rfl rfl ⟨(Nat.le_of_ble_eq_true rfl), (Nat.le_of_ble_eq_true rfl)⟩ (Nat.le_of_ble_eq_true rfl) ⟨(Nat.le_of_ble_eq_true rfl), (Nat.le_of_ble_eq_true rfl)⟩ ?_
                    refine zr_iinc (v := ((v6 + 1) + 1)) F zd_XSight_cutBySide_186 rfl rfl (by decide) ?_
                    refine zr_lload F zd_XSight_cutBySide_189 rfl ?_
                    refine zr_lstore F zd_XSight_cutBySide_191 (by decide) ?_
                    refine zr_iinc (v := (v7 + 1)) F zd_XSight_cutBySide_193 rfl rfl (by decide) ?_
                    refine zr_goto F 16 zd_XSight_cutBySide_196 (by decide) ?_
                    refine zr_loc (L' := [(0, .ref (b + v0)), (1, .int v1), (2, .long v2), (4, .long v2), (6, .int ((v6 + 1) + 1)), (7, .int (v7 + 1))]) ⟨rfl, rfl, rfl, rfl, rfl, rfl, trivial⟩ ?_
                    exact ih _ _ _ _ _ _ _ _ h hx0
              ·
                rw [if_neg hb47] at h
                refine zr_aload_n F zd_XSight_cutBySide_120 rfl ?_
                refine zr_bipushv (v := 6) F zd_XSight_cutBySide_121 (by decide) ?_
                refine zr_pcn 123 rfl ?_
                refine zr_iload F zd_XSight_cutBySide_123 rfl ?_
                refine zr_imul F zd_XSight_cutBySide_125 ?_
                refine zr_lload F zd_XSight_cutBySide_126 rfl ?_
                refine zr_bipushv (v := 6) F zd_XSight_cutBySide_128 (by decide) ?_
                refine zr_iload F zd_XSight_cutBySide_130 rfl ?_
                refine zr_imul F zd_XSight_cutBySide_132 ?_
                refine zr_lload F zd_XSight_cutBySide_133 rfl ?_
                refine zr_bipushv (v := 6) F zd_XSight_cutBySide_135 (by decide) ?_
                refine zr_pcn 137 rfl ?_
                refine zr_iload F zd_XSight_cutBySide_137 rfl ?_
                refine zr_imul F zd_XSight_cutBySide_139 ?_
                obtain ⟨le54, hs53, h⟩ := zoS_s h
                obtain ⟨p55, ep55, h⟩ := zoB_s h
                refine zr_callV0 F (k_XSight_putBetween l D tA b sh _ ep55) zd_XSight_cutBySide_140 (zW_o hs53 (by decide)) rfl zs_XSight_216 rfl zq_XSight_putBetween rfl rfl ⟨(Nat.le_of_ble_eq_true rfl), (Nat.le_of_ble_eq_true rfl)⟩ (Nat.le_of_ble_eq_true rfl) ⟨(Nat.le_of_ble_eq_true rfl), (Nat.le_of_ble_eq_true rfl)⟩ ?_
                refine zr_iinc (v := ((v6 + 1) + 1)) F zd_XSight_cutBySide_143 rfl rfl (by decide) ?_
                refine zr_goto F 189 zd_XSight_cutBySide_146 (by decide) ?_
                refine zr_lload F zd_XSight_cutBySide_189 rfl ?_
                refine zr_lstore F zd_XSight_cutBySide_191 (by decide) ?_
                refine zr_iinc (v := (v7 + 1)) F zd_XSight_cutBySide_193 rfl rfl (by decide) ?_
                refine zr_pcn 196 rfl ?_
                refine zr_goto F 16 zd_XSight_cutBySide_196 (by decide) ?_
                refine zr_loc (L' := [(0, .ref (b + v0)), (1, .int v1), (2, .long v2), (4, .long v2), (6, .int ((v6 + 1) + 1)), (7, .int (v7 + 1))]) ⟨rfl, rfl, rfl, rfl, rfl, rfl, trivial⟩ ?_
                exact ih _ _ _ _ _ _ _ _ h hx0
        ·
          rw [if_neg hb10] at h
          refine zr_iload F zd_XSight_cutBySide_45 rfl ?_
          refine zr_iconstv (v := 1) F zd_XSight_cutBySide_47 (by decide) ?_
          refine zr_iadd F zd_XSight_cutBySide_48 ?_
          refine zr_goto F 53 zd_XSight_cutBySide_49 (by decide) ?_
          obtain ⟨x56, ex56, h⟩ := zoL_s h
          rw [← ex56]
          refine zr_istore F zd_XSight_cutBySide_53 (by decide) ?_
          refine zr_iload F zd_XSight_cutBySide_55 rfl ?_
          refine zr_if_ne F 64 zd_XSight_cutBySide_57 (by decide) (fun hb57 => ?_) (fun hb57 => ?_)
          ·
            rw [if_neg hb57] at h
            refine zr_pcn 64 rfl ?_
            refine zr_aload_n F zd_XSight_cutBySide_64 rfl ?_
            refine zr_iload_n F zd_XSight_cutBySide_65 rfl ?_
            refine zr_iload F zd_XSight_cutBySide_66 rfl ?_
            obtain ⟨le59, hs58, h⟩ := zoS_s h
            obtain ⟨p60, ep60, h⟩ := zoB_s h
            refine zr_callV1 F (k_XSight_sideOf l D tA b sh _ ep60) zd_XSight_cutBySide_68 (zW_o hs58 (by decide)) rfl zs_XSight_212 rfl zq_XSight_sideOf rfl rfl ⟨(Nat.le_of_ble_eq_true rfl), (Nat.le_of_ble_eq_true rfl)⟩ (Nat.le_of_ble_eq_true rfl) ⟨(Nat.le_of_ble_eq_true rfl), (Nat.le_of_ble_eq_true rfl)⟩ ?_
            refine zr_lstore F zd_XSight_cutBySide_71 (by decide) ?_
            refine zr_lload F zd_XSight_cutBySide_73 rfl ?_
            refine zr_lconstv (v := 0) F zd_XSight_cutBySide_75 (by decide) ?_
            refine zr_lcmp F zd_XSight_cutBySide_76 ?_
            refine zr_pcn 77 rfl ?_
            refine zr_if_lt F 106 zd_XSight_cutBySide_77 (by decide) (fun hb61 => ?_) (fun hb61 => ?_)
            ·
              rw [if_pos hb61] at h
              refine zr_lload F zd_XSight_cutBySide_106 rfl ?_
              refine zr_lconstv (v := 0) F zd_XSight_cutBySide_108 (by decide) ?_
              refine zr_lcmp F zd_XSight_cutBySide_109 ?_
              refine zr_if_lt F 149 zd_XSight_cutBySide_110 (by decide) (fun hb62 => ?_) (fun hb62 => ?_)
              ·
                rw [if_pos hb62] at h
                refine zr_lload F zd_XSight_cutBySide_149 rfl ?_
                refine zr_lconstv (v := 0) F zd_XSight_cutBySide_151 (by decide) ?_
                refine zr_lcmp F zd_XSight_cutBySide_152 ?_
                refine zr_pcn 153 rfl ?_
                refine zr_if_ge F 189 zd_XSight_cutBySide_153 (by decide) (fun hb63 => ?_) (fun hb63 => ?_)
                ·
                  rw [if_pos hb63] at h
                  refine zr_lload F zd_XSight_cutBySide_189 rfl ?_
                  refine zr_lstore F zd_XSight_cutBySide_191 (by decide) ?_
                  refine zr_iinc (v := (v7 + 1)) F zd_XSight_cutBySide_193 rfl rfl (by decide) ?_
                  refine zr_goto F 16 zd_XSight_cutBySide_196 (by decide) ?_
                  refine zr_loc (L' := [(0, .ref (b + v0)), (1, .int v1), (2, .long v2), (4, .long (p60.1)), (6, .int v6), (7, .int (v7 + 1))]) ⟨rfl, rfl, rfl, rfl, rfl, rfl, trivial⟩ ?_
                  exact ih _ _ _ _ _ _ _ _ h hx0
                ·
                  rw [if_neg hb63] at h
                  refine zr_lload F zd_XSight_cutBySide_156 rfl ?_
                  refine zr_lconstv (v := 0) F zd_XSight_cutBySide_158 (by decide) ?_
                  refine zr_lcmp F zd_XSight_cutBySide_159 ?_
                  refine zr_pcn 160 rfl ?_
                  refine zr_if_lt F 189 zd_XSight_cutBySide_160 (by decide) (fun hb64 => ?_) (fun hb64 => ?_)
                  ·
                    rw [if_pos hb64] at h
                    refine zr_lload F zd_XSight_cutBySide_189 rfl ?_
                    refine zr_lstore F zd_XSight_cutBySide_191 (by decide) ?_
                    refine zr_iinc (v := (v7 + 1)) F zd_XSight_cutBySide_193 rfl rfl (by decide) ?_
                    refine zr_goto F 16 zd_XSight_cutBySide_196 (by decide) ?_
                    refine zr_loc (L' := [(0, .ref (b + v0)), (1, .int v1), (2, .long v2), (4, .long (p60.1)), (6, .int v6), (7, .int (v7 + 1))]) ⟨rfl, rfl, rfl, rfl, rfl, rfl, trivial⟩ ?_
                    exact ih _ _ _ _ _ _ _ _ h hx0
                  ·
                    rw [if_neg hb64] at h
                    refine zr_aload_n F zd_XSight_cutBySide_163 rfl ?_
                    refine zr_bipushv (v := 6) F zd_XSight_cutBySide_164 (by decide) ?_
                    refine zr_iload F zd_XSight_cutBySide_166 rfl ?_
                    refine zr_pcn 168 rfl ?_
                    refine zr_imul F zd_XSight_cutBySide_168 ?_
                    refine zr_lload F zd_XSight_cutBySide_169 rfl ?_
                    refine zr_bipushv (v := 6) F zd_XSight_cutBySide_171 (by decide) ?_
                    refine zr_iload F zd_XSight_cutBySide_173 rfl ?_
                    refine zr_imul F zd_XSight_cutBySide_175 ?_
                    refine zr_lload F zd_XSight_cutBySide_176 rfl ?_
                    refine zr_bipushv (v := 6) F zd_XSight_cutBySide_178 (by decide) ?_
                    refine zr_iload F zd_XSight_cutBySide_180 rfl ?_
                    refine zr_pcn 182 rfl ?_
                    refine zr_imul F zd_XSight_cutBySide_182 ?_
                    obtain ⟨le66, hs65, h⟩ := zoS_s h
                    obtain ⟨p67, ep67, h⟩ := zoB_s h
                    refine zr_callV0 F (k_XSight_putBetween l D tA b sh _ ep67) zd_XSight_cutBySide_183 (zW_o hs65 (by decide)) rfl zs_XSight_216 rfl zq_XSight_putBetween rfl rfl ⟨(Nat.le_of_ble_eq_true rfl), (Nat.le_of_ble_eq_true rfl)⟩ (Nat.le_of_ble_eq_true rfl) ⟨(Nat.le_of_ble_eq_true rfl), (Nat.le_of_ble_eq_true rfl)⟩ ?_
                    refine zr_iinc (v := (v6 + 1)) F zd_XSight_cutBySide_186 rfl rfl (by decide) ?_
                    refine zr_lload F zd_XSight_cutBySide_189 rfl ?_
                    refine zr_lstore F zd_XSight_cutBySide_191 (by decide) ?_
                    refine zr_iinc (v := (v7 + 1)) F zd_XSight_cutBySide_193 rfl rfl (by decide) ?_
                    refine zr_goto F 16 zd_XSight_cutBySide_196 (by decide) ?_
                    refine zr_loc (L' := [(0, .ref (b + v0)), (1, .int v1), (2, .long v2), (4, .long (p60.1)), (6, .int (v6 + 1)), (7, .int (v7 + 1))]) ⟨rfl, rfl, rfl, rfl, rfl, rfl, trivial⟩ ?_
                    exact ih _ _ _ _ _ _ _ _ h hx0
              ·
                rw [if_neg hb62] at h
                refine zr_lload F zd_XSight_cutBySide_113 rfl ?_
                refine zr_pcn 115 rfl ?_
                refine zr_lconstv (v := 0) F zd_XSight_cutBySide_115 (by decide) ?_
                refine zr_lcmp F zd_XSight_cutBySide_116 ?_
                refine zr_if_ge F 149 zd_XSight_cutBySide_117 (by decide) (fun hb68 => ?_) (fun hb68 => ?_)
                ·
                  rw [if_pos hb68] at h
                  refine zr_lload F zd_XSight_cutBySide_149 rfl ?_
                  refine zr_lconstv (v := 0) F zd_XSight_cutBySide_151 (by decide) ?_
                  refine zr_lcmp F zd_XSight_cutBySide_152 ?_
                  refine zr_if_ge F 189 zd_XSight_cutBySide_153 (by decide) (fun hb69 => ?_) (fun hb69 => ?_)
                  ·
                    rw [if_pos hb69] at h
                    refine zr_lload F zd_XSight_cutBySide_189 rfl ?_
                    refine zr_pcn 191 rfl ?_
                    refine zr_lstore F zd_XSight_cutBySide_191 (by decide) ?_
                    refine zr_iinc (v := (v7 + 1)) F zd_XSight_cutBySide_193 rfl rfl (by decide) ?_
                    refine zr_goto F 16 zd_XSight_cutBySide_196 (by decide) ?_
                    refine zr_loc (L' := [(0, .ref (b + v0)), (1, .int v1), (2, .long v2), (4, .long (p60.1)), (6, .int v6), (7, .int (v7 + 1))]) ⟨rfl, rfl, rfl, rfl, rfl, rfl, trivial⟩ ?_
                    exact ih _ _ _ _ _ _ _ _ h hx0
                  ·
                    rw [if_neg hb69] at h
                    refine zr_lload F zd_XSight_cutBySide_156 rfl ?_
                    refine zr_lconstv (v := 0) F zd_XSight_cutBySide_158 (by decide) ?_
                    refine zr_lcmp F zd_XSight_cutBySide_159 ?_
                    refine zr_if_lt F 189 zd_XSight_cutBySide_160 (by decide) (fun hb70 => ?_) (fun hb70 => ?_)
                    ·
                      rw [if_pos hb70] at h
                      refine zr_lload F zd_XSight_cutBySide_189 rfl ?_
                      refine zr_pcn 191 rfl ?_
                      refine zr_lstore F zd_XSight_cutBySide_191 (by decide) ?_
                      refine zr_iinc (v := (v7 + 1)) F zd_XSight_cutBySide_193 rfl rfl (by decide) ?_
                      refine zr_goto F 16 zd_XSight_cutBySide_196 (by decide) ?_
                      refine zr_loc (L' := [(0, .ref (b + v0)), (1, .int v1), (2, .long v2), (4, .long (p60.1)), (6, .int v6), (7, .int (v7 + 1))]) ⟨rfl, rfl, rfl, rfl, rfl, rfl, trivial⟩ ?_
                      exact ih _ _ _ _ _ _ _ _ h hx0
                    ·
                      rw [if_neg hb70] at h
                      refine zr_aload_n F zd_XSight_cutBySide_163 rfl ?_
                      refine zr_bipushv (v := 6) F zd_XSight_cutBySide_164 (by decide) ?_
                      refine zr_iload F zd_XSight_cutBySide_166 rfl ?_
                      refine zr_imul F zd_XSight_cutBySide_168 ?_
                      refine zr_lload F zd_XSight_cutBySide_169 rfl ?_
                      refine zr_pcn 171 rfl ?_
                      refine zr_bipushv (v := 6) F zd_XSight_cutBySide_171 (by decide) ?_
                      refine zr_iload F zd_XSight_cutBySide_173 rfl ?_
                      refine zr_imul F zd_XSight_cutBySide_175 ?_
                      refine zr_lload F zd_XSight_cutBySide_176 rfl ?_
                      refine zr_bipushv (v := 6) F zd_XSight_cutBySide_178 (by decide) ?_
                      refine zr_iload F zd_XSight_cutBySide_180 rfl ?_
                      refine zr_imul F zd_XSight_cutBySide_182 ?_
                      obtain ⟨le72, hs71, h⟩ := zoS_s h
                      obtain ⟨p73, ep73, h⟩ := zoB_s h
                      refine zr_callV0 F (k_XSight_putBetween l D tA b sh _ ep73) zd_XSight_cutBySide_183 (zW_o hs71 (by decide)) rfl zs_XSight_216 rfl zq_XSight_putBetween rfl rfl ⟨(Nat.le_of_ble_eq_true rfl), (Nat.le_of_ble_eq_true rfl)⟩ (Nat.le_of_ble_eq_true rfl) ⟨(Nat.le_of_ble_eq_true rfl), (Nat.le_of_ble_eq_true rfl)⟩ ?_
                      refine zr_pcn 186 rfl ?_
                      refine zr_iinc (v := (v6 + 1)) F zd_XSight_cutBySide_186 rfl rfl (by decide) ?_
                      refine zr_lload F zd_XSight_cutBySide_189 rfl ?_
                      refine zr_lstore F zd_XSight_cutBySide_191 (by decide) ?_
                      refine zr_iinc (v := (v7 + 1)) F zd_XSight_cutBySide_193 rfl rfl (by decide) ?_
                      refine zr_goto F 16 zd_XSight_cutBySide_196 (by decide) ?_
                      refine zr_loc (L' := [(0, .ref (b + v0)), (1, .int v1), (2, .long v2), (4, .long (p60.1)), (6, .int (v6 + 1)), (7, .int (v7 + 1))]) ⟨rfl, rfl, rfl, rfl, rfl, rfl, trivial⟩ ?_
                      exact ih _ _ _ _ _ _ _ _ h hx0
                ·
                  rw [if_neg hb68] at h
                  refine zr_aload_n F zd_XSight_cutBySide_120 rfl ?_
                  refine zr_bipushv (v := 6) F zd_XSight_cutBySide_121 (by decide) ?_
                  refine zr_iload F zd_XSight_cutBySide_123 rfl ?_
                  refine zr_pcn 125 rfl ?_
                  refine zr_imul F zd_XSight_cutBySide_125 ?_
                  refine zr_lload F zd_XSight_cutBySide_126 rfl ?_
                  refine zr_bipushv (v := 6) F zd_XSight_cutBySide_128 (by decide) ?_
                  refine zr_iload F zd_XSight_cutBySide_130 rfl ?_
                  refine zr_imul F zd_XSight_cutBySide_132 ?_
                  refine zr_lload F zd_XSight_cutBySide_133 rfl ?_
                  refine zr_bipushv (v := 6) F zd_XSight_cutBySide_135 (by decide) ?_
                  refine zr_iload F zd_XSight_cutBySide_137 rfl ?_
                  refine zr_pcn 139 rfl ?_
                  refine zr_imul F zd_XSight_cutBySide_139 ?_
                  obtain ⟨le75, hs74, h⟩ := zoS_s h
                  obtain ⟨p76, ep76, h⟩ := zoB_s h
                  refine zr_callV0 F (k_XSight_putBetween l D tA b sh _ ep76) zd_XSight_cutBySide_140 (zW_o hs74 (by decide)) rfl zs_XSight_216 rfl zq_XSight_putBetween rfl rfl ⟨(Nat.le_of_ble_eq_true rfl), (Nat.le_of_ble_eq_true rfl)⟩ (Nat.le_of_ble_eq_true rfl) ⟨(Nat.le_of_ble_eq_true rfl), (Nat.le_of_ble_eq_true rfl)⟩ ?_
                  refine zr_iinc (v := (v6 + 1)) F zd_XSight_cutBySide_143 rfl rfl (by decide) ?_
                  refine zr_goto F 189 zd_XSight_cutBySide_146 (by decide) ?_
                  refine zr_lload F zd_XSight_cutBySide_189 rfl ?_
                  refine zr_lstore F zd_XSight_cutBySide_191 (by decide) ?_
                  refine zr_iinc (v := (v7 + 1)) F zd_XSight_cutBySide_193 rfl rfl (by decide) ?_
                  refine zr_goto F 16 zd_XSight_cutBySide_196 (by decide) ?_
                  refine zr_loc (L' := [(0, .ref (b + v0)), (1, .int v1), (2, .long v2), (4, .long (p60.1)), (6, .int (v6 + 1)), (7, .int (v7 + 1))]) ⟨rfl, rfl, rfl, rfl, rfl, rfl, trivial⟩ ?_
                  exact ih _ _ _ _ _ _ _ _ h hx0
            ·
              rw [if_neg hb61] at h
              refine zr_pcn 80 rfl ?_
              refine zr_aload_n F zd_XSight_cutBySide_80 rfl ?_
              obtain ⟨le78, hs77, h⟩ := zoS_s h
              obtain ⟨a79, ea79, h⟩ := zoB_s h
              refine zr_get F 9 2 zd_XSight_cutBySide_81 (zW_o hs77 (by decide)) rfl (by decide) zw_375 rfl (by rfl) ?_
              refine zr_tor ea79 ?_
              refine zr_bipushv (v := 6) F zd_XSight_cutBySide_84 (by decide) ?_
              refine zr_iload F zd_XSight_cutBySide_86 rfl ?_
              refine zr_imul F zd_XSight_cutBySide_88 ?_
              refine zr_aload_n F zd_XSight_cutBySide_89 rfl ?_
              obtain ⟨le81, hs80, h⟩ := zoS_s h
              obtain ⟨a82, ea82, h⟩ := zoB_s h
              refine zr_get F 9 14 zd_XSight_cutBySide_90 (zW_o hs80 (by decide)) rfl (by decide) zw_387 rfl (by rfl) ?_
              refine zr_tor ea82 ?_
              refine zr_bipushv (v := 6) F zd_XSight_cutBySide_93 (by decide) ?_
              refine zr_pcn 95 rfl ?_
              refine zr_iload F zd_XSight_cutBySide_95 rfl ?_
              refine zr_imul F zd_XSight_cutBySide_97 ?_
              refine zr_bipushv (v := 6) F zd_XSight_cutBySide_98 (by decide) ?_
              obtain ⟨x83, ex83, h⟩ := zoL_s h
              rw [← ex83]
              obtain ⟨x84, ex84, h⟩ := zoL_s h
              rw [← ex84]
              obtain ⟨le85, hs86, h⟩ := zoS_s h
              obtain ⟨le87, hs88, h⟩ := zoS_s h
              obtain ⟨hc89, h⟩ := zoT_s h
              obtain ⟨mm90, emm90, h⟩ := zoL_s h
              refine zr_copy F zd_XSight_cutBySide_100 zw_722 zw_724 zw_723 zw_26 (zW_a0 hs86) (zW_a0 hs88) hc89.1 hc89.2.1 hc89.2.2.1 hc89.2.2.2.1 hc89.2.2.2.2 (Nat.le_of_ble_eq_true rfl) (Nat.le_of_ble_eq_true rfl) ?_
              refine zr_norm (zW tA b sh mm90) _ (by rw [emm90]; exact zW_c hs88) rfl ?_
              refine zr_iinc (v := (v6 + 1)) F zd_XSight_cutBySide_103 rfl rfl (by decide) ?_
              refine zr_lload F zd_XSight_cutBySide_106 rfl ?_
              refine zr_lconstv (v := 0) F zd_XSight_cutBySide_108 (by decide) ?_
              refine zr_lcmp F zd_XSight_cutBySide_109 ?_
              refine zr_pcn 110 rfl ?_
              refine zr_if_lt F 149 zd_XSight_cutBySide_110 (by decide) (fun hb91 => ?_) (fun hb91 => ?_)
              ·
                rw [if_pos hb91] at h
                refine zr_lload F zd_XSight_cutBySide_149 rfl ?_
                refine zr_lconstv (v := 0) F zd_XSight_cutBySide_151 (by decide) ?_
                refine zr_lcmp F zd_XSight_cutBySide_152 ?_
                refine zr_if_ge F 189 zd_XSight_cutBySide_153 (by decide) (fun hb92 => ?_) (fun hb92 => ?_)
                ·
                  rw [if_pos hb92] at h
                  refine zr_lload F zd_XSight_cutBySide_189 rfl ?_
                  refine zr_lstore F zd_XSight_cutBySide_191 (by decide) ?_
                  refine zr_iinc (v := (v7 + 1)) F zd_XSight_cutBySide_193 rfl rfl (by decide) ?_
                  refine zr_pcn 196 rfl ?_
                  refine zr_goto F 16 zd_XSight_cutBySide_196 (by decide) ?_
                  refine zr_loc (L' := [(0, .ref (b + v0)), (1, .int v1), (2, .long v2), (4, .long (p60.1)), (6, .int (v6 + 1)), (7, .int (v7 + 1))]) ⟨rfl, rfl, rfl, rfl, rfl, rfl, trivial⟩ ?_
                  exact ih _ _ _ _ _ _ _ _ h hx0
                ·
                  rw [if_neg hb92] at h
                  refine zr_lload F zd_XSight_cutBySide_156 rfl ?_
                  refine zr_lconstv (v := 0) F zd_XSight_cutBySide_158 (by decide) ?_
                  refine zr_lcmp F zd_XSight_cutBySide_159 ?_
                  refine zr_if_lt F 189 zd_XSight_cutBySide_160 (by decide) (fun hb93 => ?_) (fun hb93 => ?_)
                  ·
                    rw [if_pos hb93] at h
                    refine zr_lload F zd_XSight_cutBySide_189 rfl ?_
                    refine zr_lstore F zd_XSight_cutBySide_191 (by decide) ?_
                    refine zr_iinc (v := (v7 + 1)) F zd_XSight_cutBySide_193 rfl rfl (by decide) ?_
                    refine zr_pcn 196 rfl ?_
                    refine zr_goto F 16 zd_XSight_cutBySide_196 (by decide) ?_
                    refine zr_loc (L' := [(0, .ref (b + v0)), (1, .int v1), (2, .long v2), (4, .long (p60.1)), (6, .int (v6 + 1)), (7, .int (v7 + 1))]) ⟨rfl, rfl, rfl, rfl, rfl, rfl, trivial⟩ ?_
                    exact ih _ _ _ _ _ _ _ _ h hx0
                  ·
                    rw [if_neg hb93] at h
                    refine zr_aload_n F zd_XSight_cutBySide_163 rfl ?_
                    refine zr_bipushv (v := 6) F zd_XSight_cutBySide_164 (by decide) ?_
                    refine zr_iload F zd_XSight_cutBySide_166 rfl ?_
                    refine zr_imul F zd_XSight_cutBySide_168 ?_
                    refine zr_lload F zd_XSight_cutBySide_169 rfl ?_
                    refine zr_bipushv (v := 6) F zd_XSight_cutBySide_171 (by decide) ?_
                    refine zr_iload F zd_XSight_cutBySide_173 rfl ?_
                    refine zr_pcn 175 rfl ?_
                    refine zr_imul F zd_XSight_cutBySide_175 ?_
                    refine zr_lload F zd_XSight_cutBySide_176 rfl ?_
                    refine zr_bipushv (v := 6) F zd_XSight_cutBySide_178 (by decide) ?_
                    refine zr_iload F zd_XSight_cutBySide_180 rfl ?_
                    refine zr_imul F zd_XSight_cutBySide_182 ?_
                    obtain ⟨le95, hs94, h⟩ := zoS_s h
                    obtain ⟨p96, ep96, h⟩ := zoB_s h
                    refine zr_callV0 F (k_XSight_putBetween l D tA b sh _ ep96) zd_XSight_cutBySide_183 (zW_o hs94 (by decide)) rfl zs_XSight_216 rfl zq_XSight_putBetween rfl rfl ⟨(Nat.le_of_ble_eq_true rfl), (Nat.le_of_ble_eq_true rfl)⟩ (Nat.le_of_ble_eq_true rfl) ⟨(Nat.le_of_ble_eq_true rfl), (Nat.le_of_ble_eq_true rfl)⟩ ?_
                    refine zr_iinc (v := ((v6 + 1) + 1)) F zd_XSight_cutBySide_186 rfl rfl (by decide) ?_
                    refine zr_lload F zd_XSight_cutBySide_189 rfl ?_
                    refine zr_pcn 191 rfl ?_
                    refine zr_lstore F zd_XSight_cutBySide_191 (by decide) ?_
                    refine zr_iinc (v := (v7 + 1)) F zd_XSight_cutBySide_193 rfl rfl (by decide) ?_
                    refine zr_goto F 16 zd_XSight_cutBySide_196 (by decide) ?_
                    refine zr_loc (L' := [(0, .ref (b + v0)), (1, .int v1), (2, .long v2), (4, .long (p60.1)), (6, .int ((v6 + 1) + 1)), (7, .int (v7 + 1))]) ⟨rfl, rfl, rfl, rfl, rfl, rfl, trivial⟩ ?_
                    exact ih _ _ _ _ _ _ _ _ h hx0
              ·
                rw [if_neg hb91] at h
                refine zr_lload F zd_XSight_cutBySide_113 rfl ?_
                refine zr_lconstv (v := 0) F zd_XSight_cutBySide_115 (by decide) ?_
                refine zr_lcmp F zd_XSight_cutBySide_116 ?_
                refine zr_if_ge F 149 zd_XSight_cutBySide_117 (by decide) (fun hb97 => ?_) (fun hb97 => ?_)
                ·
                  rw [if_pos hb97] at h
                  refine zr_lload F zd_XSight_cutBySide_149 rfl ?_
                  refine zr_pcn 151 rfl ?_
                  refine zr_lconstv (v := 0) F zd_XSight_cutBySide_151 (by decide) ?_
                  refine zr_lcmp F zd_XSight_cutBySide_152 ?_
                  refine zr_if_ge F 189 zd_XSight_cutBySide_153 (by decide) (fun hb98 => ?_) (fun hb98 => ?_)
                  ·
                    rw [if_pos hb98] at h
                    refine zr_lload F zd_XSight_cutBySide_189 rfl ?_
                    refine zr_lstore F zd_XSight_cutBySide_191 (by decide) ?_
                    refine zr_iinc (v := (v7 + 1)) F zd_XSight_cutBySide_193 rfl rfl (by decide) ?_
                    refine zr_goto F 16 zd_XSight_cutBySide_196 (by decide) ?_
                    refine zr_loc (L' := [(0, .ref (b + v0)), (1, .int v1), (2, .long v2), (4, .long (p60.1)), (6, .int (v6 + 1)), (7, .int (v7 + 1))]) ⟨rfl, rfl, rfl, rfl, rfl, rfl, trivial⟩ ?_
                    exact ih _ _ _ _ _ _ _ _ h hx0
                  ·
                    rw [if_neg hb98] at h
                    refine zr_lload F zd_XSight_cutBySide_156 rfl ?_
                    refine zr_pcn 158 rfl ?_
                    refine zr_lconstv (v := 0) F zd_XSight_cutBySide_158 (by decide) ?_
                    refine zr_lcmp F zd_XSight_cutBySide_159 ?_
                    refine zr_if_lt F 189 zd_XSight_cutBySide_160 (by decide) (fun hb99 => ?_) (fun hb99 => ?_)
                    ·
                      rw [if_pos hb99] at h
                      refine zr_lload F zd_XSight_cutBySide_189 rfl ?_
                      refine zr_lstore F zd_XSight_cutBySide_191 (by decide) ?_
                      refine zr_iinc (v := (v7 + 1)) F zd_XSight_cutBySide_193 rfl rfl (by decide) ?_
                      refine zr_goto F 16 zd_XSight_cutBySide_196 (by decide) ?_
                      refine zr_loc (L' := [(0, .ref (b + v0)), (1, .int v1), (2, .long v2), (4, .long (p60.1)), (6, .int (v6 + 1)), (7, .int (v7 + 1))]) ⟨rfl, rfl, rfl, rfl, rfl, rfl, trivial⟩ ?_
                      exact ih _ _ _ _ _ _ _ _ h hx0
                    ·
                      rw [if_neg hb99] at h
                      refine zr_aload_n F zd_XSight_cutBySide_163 rfl ?_
                      refine zr_pcn 164 rfl ?_
                      refine zr_bipushv (v := 6) F zd_XSight_cutBySide_164 (by decide) ?_
                      refine zr_iload F zd_XSight_cutBySide_166 rfl ?_
                      refine zr_imul F zd_XSight_cutBySide_168 ?_
                      refine zr_lload F zd_XSight_cutBySide_169 rfl ?_
                      refine zr_bipushv (v := 6) F zd_XSight_cutBySide_171 (by decide) ?_
                      refine zr_iload F zd_XSight_cutBySide_173 rfl ?_
                      refine zr_imul F zd_XSight_cutBySide_175 ?_
                      refine zr_lload F zd_XSight_cutBySide_176 rfl ?_
                      refine zr_pcn 178 rfl ?_
                      refine zr_bipushv (v := 6) F zd_XSight_cutBySide_178 (by decide) ?_
                      refine zr_iload F zd_XSight_cutBySide_180 rfl ?_
                      refine zr_imul F zd_XSight_cutBySide_182 ?_
                      obtain ⟨le101, hs100, h⟩ := zoS_s h
                      obtain ⟨p102, ep102, h⟩ := zoB_s h
                      refine zr_callV0 F (k_XSight_putBetween l D tA b sh _ ep102) zd_XSight_cutBySide_183 (zW_o hs100 (by decide)) rfl zs_XSight_216 rfl zq_XSight_putBetween rfl rfl ⟨(Nat.le_of_ble_eq_true rfl), (Nat.le_of_ble_eq_true rfl)⟩ (Nat.le_of_ble_eq_true rfl) ⟨(Nat.le_of_ble_eq_true rfl), (Nat.le_of_ble_eq_true rfl)⟩ ?_
                      refine zr_iinc (v := ((v6 + 1) + 1)) F zd_XSight_cutBySide_186 rfl rfl (by decide) ?_
                      refine zr_lload F zd_XSight_cutBySide_189 rfl ?_
                      refine zr_lstore F zd_XSight_cutBySide_191 (by decide) ?_
                      refine zr_iinc (v := (v7 + 1)) F zd_XSight_cutBySide_193 rfl rfl (by decide) ?_
                      refine zr_pcn 196 rfl ?_
                      refine zr_goto F 16 zd_XSight_cutBySide_196 (by decide) ?_
                      refine zr_loc (L' := [(0, .ref (b + v0)), (1, .int v1), (2, .long v2), (4, .long (p60.1)), (6, .int ((v6 + 1) + 1)), (7, .int (v7 + 1))]) ⟨rfl, rfl, rfl, rfl, rfl, rfl, trivial⟩ ?_
                      exact ih _ _ _ _ _ _ _ _ h hx0
                ·
                  rw [if_neg hb97] at h
                  refine zr_aload_n F zd_XSight_cutBySide_120 rfl ?_
                  refine zr_bipushv (v := 6) F zd_XSight_cutBySide_121 (by decide) ?_
                  refine zr_iload F zd_XSight_cutBySide_123 rfl ?_
                  refine zr_imul F zd_XSight_cutBySide_125 ?_
                  refine zr_lload F zd_XSight_cutBySide_126 rfl ?_
                  refine zr_bipushv (v := 6) F zd_XSight_cutBySide_128 (by decide) ?_
                  refine zr_iload F zd_XSight_cutBySide_130 rfl ?_
                  refine zr_pcn 132 rfl ?_
                  refine zr_imul F zd_XSight_cutBySide_132 ?_
                  refine zr_lload F zd_XSight_cutBySide_133 rfl ?_
                  refine zr_bipushv (v := 6) F zd_XSight_cutBySide_135 (by decide) ?_
                  refine zr_iload F zd_XSight_cutBySide_137 rfl ?_
                  refine zr_imul F zd_XSight_cutBySide_139 ?_
                  obtain ⟨le104, hs103, h⟩ := zoS_s h
                  obtain ⟨p105, ep105, h⟩ := zoB_s h
                  refine zr_callV0 F (k_XSight_putBetween l D tA b sh _ ep105) zd_XSight_cutBySide_140 (zW_o hs103 (by decide)) rfl zs_XSight_216 rfl zq_XSight_putBetween rfl rfl ⟨(Nat.le_of_ble_eq_true rfl), (Nat.le_of_ble_eq_true rfl)⟩ (Nat.le_of_ble_eq_true rfl) ⟨(Nat.le_of_ble_eq_true rfl), (Nat.le_of_ble_eq_true rfl)⟩ ?_
                  refine zr_iinc (v := ((v6 + 1) + 1)) F zd_XSight_cutBySide_143 rfl rfl (by decide) ?_
                  refine zr_goto F 189 zd_XSight_cutBySide_146 (by decide) ?_
                  refine zr_pcn 189 rfl ?_
                  refine zr_lload F zd_XSight_cutBySide_189 rfl ?_
                  refine zr_lstore F zd_XSight_cutBySide_191 (by decide) ?_
                  refine zr_iinc (v := (v7 + 1)) F zd_XSight_cutBySide_193 rfl rfl (by decide) ?_
                  refine zr_goto F 16 zd_XSight_cutBySide_196 (by decide) ?_
                  refine zr_loc (L' := [(0, .ref (b + v0)), (1, .int v1), (2, .long v2), (4, .long (p60.1)), (6, .int ((v6 + 1) + 1)), (7, .int (v7 + 1))]) ⟨rfl, rfl, rfl, rfl, rfl, rfl, trivial⟩ ?_
                  exact ih _ _ _ _ _ _ _ _ h hx0
          ·
            rw [if_pos hb57] at h
            refine zr_lload_n F zd_XSight_cutBySide_60 rfl ?_
            refine zr_goto F 71 zd_XSight_cutBySide_61 (by decide) ?_
            refine zr_lstore F zd_XSight_cutBySide_71 (by decide) ?_
            refine zr_lload F zd_XSight_cutBySide_73 rfl ?_
            refine zr_pcn 75 rfl ?_
            refine zr_lconstv (v := 0) F zd_XSight_cutBySide_75 (by decide) ?_
            refine zr_lcmp F zd_XSight_cutBySide_76 ?_
            refine zr_if_lt F 106 zd_XSight_cutBySide_77 (by decide) (fun hb106 => ?_) (fun hb106 => ?_)
            ·
              rw [if_pos hb106] at h
              refine zr_lload F zd_XSight_cutBySide_106 rfl ?_
              refine zr_lconstv (v := 0) F zd_XSight_cutBySide_108 (by decide) ?_
              refine zr_lcmp F zd_XSight_cutBySide_109 ?_
              refine zr_if_lt F 149 zd_XSight_cutBySide_110 (by decide) (fun hb107 => ?_) (fun hb107 => ?_)
              ·
                rw [if_pos hb107] at h
                refine zr_lload F zd_XSight_cutBySide_149 rfl ?_
                refine zr_pcn 151 rfl ?_
                refine zr_lconstv (v := 0) F zd_XSight_cutBySide_151 (by decide) ?_
                refine zr_lcmp F zd_XSight_cutBySide_152 ?_
                refine zr_if_ge F 189 zd_XSight_cutBySide_153 (by decide) (fun hb108 => ?_) (fun hb108 => ?_)
                ·
                  rw [if_pos hb108] at h
                  refine zr_lload F zd_XSight_cutBySide_189 rfl ?_
                  refine zr_lstore F zd_XSight_cutBySide_191 (by decide) ?_
                  refine zr_iinc (v := (v7 + 1)) F zd_XSight_cutBySide_193 rfl rfl (by decide) ?_
                  refine zr_goto F 16 zd_XSight_cutBySide_196 (by decide) ?_
                  refine zr_loc (L' := [(0, .ref (b + v0)), (1, .int v1), (2, .long v2), (4, .long v2), (6, .int v6), (7, .int (v7 + 1))]) ⟨rfl, rfl, rfl, rfl, rfl, rfl, trivial⟩ ?_
                  exact ih _ _ _ _ _ _ _ _ h hx0
                ·
                  rw [if_neg hb108] at h
                  refine zr_lload F zd_XSight_cutBySide_156 rfl ?_
                  refine zr_pcn 158 rfl ?_
                  refine zr_lconstv (v := 0) F zd_XSight_cutBySide_158 (by decide) ?_
                  refine zr_lcmp F zd_XSight_cutBySide_159 ?_
                  refine zr_if_lt F 189 zd_XSight_cutBySide_160 (by decide) (fun hb109 => ?_) (fun hb109 => ?_)
                  ·
                    rw [if_pos hb109] at h
                    refine zr_lload F zd_XSight_cutBySide_189 rfl ?_
                    refine zr_lstore F zd_XSight_cutBySide_191 (by decide) ?_
                    refine zr_iinc (v := (v7 + 1)) F zd_XSight_cutBySide_193 rfl rfl (by decide) ?_
                    refine zr_goto F 16 zd_XSight_cutBySide_196 (by decide) ?_
                    refine zr_loc (L' := [(0, .ref (b + v0)), (1, .int v1), (2, .long v2), (4, .long v2), (6, .int v6), (7, .int (v7 + 1))]) ⟨rfl, rfl, rfl, rfl, rfl, rfl, trivial⟩ ?_
                    exact ih _ _ _ _ _ _ _ _ h hx0
                  ·
                    rw [if_neg hb109] at h
                    refine zr_aload_n F zd_XSight_cutBySide_163 rfl ?_
                    refine zr_pcn 164 rfl ?_
                    refine zr_bipushv (v := 6) F zd_XSight_cutBySide_164 (by decide) ?_
                    refine zr_iload F zd_XSight_cutBySide_166 rfl ?_
                    refine zr_imul F zd_XSight_cutBySide_168 ?_
                    refine zr_lload F zd_XSight_cutBySide_169 rfl ?_
                    refine zr_bipushv (v := 6) F zd_XSight_cutBySide_171 (by decide) ?_
                    refine zr_iload F zd_XSight_cutBySide_173 rfl ?_
                    refine zr_imul F zd_XSight_cutBySide_175 ?_
                    refine zr_lload F zd_XSight_cutBySide_176 rfl ?_
                    refine zr_pcn 178 rfl ?_
                    refine zr_bipushv (v := 6) F zd_XSight_cutBySide_178 (by decide) ?_
                    refine zr_iload F zd_XSight_cutBySide_180 rfl ?_
                    refine zr_imul F zd_XSight_cutBySide_182 ?_
                    obtain ⟨le111, hs110, h⟩ := zoS_s h
                    obtain ⟨p112, ep112, h⟩ := zoB_s h
                    refine zr_callV0 F (k_XSight_putBetween l D tA b sh _ ep112) zd_XSight_cutBySide_183 (zW_o hs110 (by decide)) rfl zs_XSight_216 rfl zq_XSight_putBetween rfl rfl ⟨(Nat.le_of_ble_eq_true rfl), (Nat.le_of_ble_eq_true rfl)⟩ (Nat.le_of_ble_eq_true rfl) ⟨(Nat.le_of_ble_eq_true rfl), (Nat.le_of_ble_eq_true rfl)⟩ ?_
                    refine zr_iinc (v := (v6 + 1)) F zd_XSight_cutBySide_186 rfl rfl (by decide) ?_
                    refine zr_lload F zd_XSight_cutBySide_189 rfl ?_
                    refine zr_lstore F zd_XSight_cutBySide_191 (by decide) ?_
                    refine zr_iinc (v := (v7 + 1)) F zd_XSight_cutBySide_193 rfl rfl (by decide) ?_
                    refine zr_pcn 196 rfl ?_
                    refine zr_goto F 16 zd_XSight_cutBySide_196 (by decide) ?_
                    refine zr_loc (L' := [(0, .ref (b + v0)), (1, .int v1), (2, .long v2), (4, .long v2), (6, .int (v6 + 1)), (7, .int (v7 + 1))]) ⟨rfl, rfl, rfl, rfl, rfl, rfl, trivial⟩ ?_
                    exact ih _ _ _ _ _ _ _ _ h hx0
              ·
                rw [if_neg hb107] at h
                refine zr_lload F zd_XSight_cutBySide_113 rfl ?_
                refine zr_lconstv (v := 0) F zd_XSight_cutBySide_115 (by decide) ?_
                refine zr_lcmp F zd_XSight_cutBySide_116 ?_
                refine zr_if_ge F 149 zd_XSight_cutBySide_117 (by decide) (fun hb113 => ?_) (fun hb113 => ?_)
                ·
                  rw [if_pos hb113] at h
                  refine zr_lload F zd_XSight_cutBySide_149 rfl ?_
                  refine zr_lconstv (v := 0) F zd_XSight_cutBySide_151 (by decide) ?_
                  refine zr_lcmp F zd_XSight_cutBySide_152 ?_
                  refine zr_pcn 153 rfl ?_
                  refine zr_if_ge F 189 zd_XSight_cutBySide_153 (by decide) (fun hb114 => ?_) (fun hb114 => ?_)
                  ·
                    rw [if_pos hb114] at h
                    refine zr_lload F zd_XSight_cutBySide_189 rfl ?_
                    refine zr_lstore F zd_XSight_cutBySide_191 (by decide) ?_
                    refine zr_iinc (v := (v7 + 1)) F zd_XSight_cutBySide_193 rfl rfl (by decide) ?_
                    refine zr_goto F 16 zd_XSight_cutBySide_196 (by decide) ?_
                    refine zr_loc (L' := [(0, .ref (b + v0)), (1, .int v1), (2, .long v2), (4, .long v2), (6, .int v6), (7, .int (v7 + 1))]) ⟨rfl, rfl, rfl, rfl, rfl, rfl, trivial⟩ ?_
                    exact ih _ _ _ _ _ _ _ _ h hx0
                  ·
                    rw [if_neg hb114] at h
                    refine zr_lload F zd_XSight_cutBySide_156 rfl ?_
                    refine zr_lconstv (v := 0) F zd_XSight_cutBySide_158 (by decide) ?_
                    refine zr_lcmp F zd_XSight_cutBySide_159 ?_
                    refine zr_pcn 160 rfl ?_
                    refine zr_if_lt F 189 zd_XSight_cutBySide_160 (by decide) (fun hb115 => ?_) (fun hb115 => ?_)
                    ·
                      rw [if_pos hb115] at h
                      refine zr_lload F zd_XSight_cutBySide_189 rfl ?_
                      refine zr_lstore F zd_XSight_cutBySide_191 (by decide) ?_
                      refine zr_iinc (v := (v7 + 1)) F zd_XSight_cutBySide_193 rfl rfl (by decide) ?_
                      refine zr_goto F 16 zd_XSight_cutBySide_196 (by decide) ?_
                      refine zr_loc (L' := [(0, .ref (b + v0)), (1, .int v1), (2, .long v2), (4, .long v2), (6, .int v6), (7, .int (v7 + 1))]) ⟨rfl, rfl, rfl, rfl, rfl, rfl, trivial⟩ ?_
                      exact ih _ _ _ _ _ _ _ _ h hx0
                    ·
                      rw [if_neg hb115] at h
                      refine zr_aload_n F zd_XSight_cutBySide_163 rfl ?_
                      refine zr_bipushv (v := 6) F zd_XSight_cutBySide_164 (by decide) ?_
                      refine zr_iload F zd_XSight_cutBySide_166 rfl ?_
                      refine zr_pcn 168 rfl ?_
                      refine zr_imul F zd_XSight_cutBySide_168 ?_
                      refine zr_lload F zd_XSight_cutBySide_169 rfl ?_
                      refine zr_bipushv (v := 6) F zd_XSight_cutBySide_171 (by decide) ?_
                      refine zr_iload F zd_XSight_cutBySide_173 rfl ?_
                      refine zr_imul F zd_XSight_cutBySide_175 ?_
                      refine zr_lload F zd_XSight_cutBySide_176 rfl ?_
                      refine zr_bipushv (v := 6) F zd_XSight_cutBySide_178 (by decide) ?_
                      refine zr_iload F zd_XSight_cutBySide_180 rfl ?_
                      refine zr_pcn 182 rfl ?_
                      refine zr_imul F zd_XSight_cutBySide_182 ?_
                      obtain ⟨le117, hs116, h⟩ := zoS_s h
                      obtain ⟨p118, ep118, h⟩ := zoB_s h
                      refine zr_callV0 F (k_XSight_putBetween l D tA b sh _ ep118) zd_XSight_cutBySide_183 (zW_o hs116 (by decide)) rfl zs_XSight_216 rfl zq_XSight_putBetween rfl rfl ⟨(Nat.le_of_ble_eq_true rfl), (Nat.le_of_ble_eq_true rfl)⟩ (Nat.le_of_ble_eq_true rfl) ⟨(Nat.le_of_ble_eq_true rfl), (Nat.le_of_ble_eq_true rfl)⟩ ?_
                      refine zr_iinc (v := (v6 + 1)) F zd_XSight_cutBySide_186 rfl rfl (by decide) ?_
                      refine zr_lload F zd_XSight_cutBySide_189 rfl ?_
                      refine zr_lstore F zd_XSight_cutBySide_191 (by decide) ?_
                      refine zr_iinc (v := (v7 + 1)) F zd_XSight_cutBySide_193 rfl rfl (by decide) ?_
                      refine zr_goto F 16 zd_XSight_cutBySide_196 (by decide) ?_
                      refine zr_loc (L' := [(0, .ref (b + v0)), (1, .int v1), (2, .long v2), (4, .long v2), (6, .int (v6 + 1)), (7, .int (v7 + 1))]) ⟨rfl, rfl, rfl, rfl, rfl, rfl, trivial⟩ ?_
                      exact ih _ _ _ _ _ _ _ _ h hx0
                ·
                  rw [if_neg hb113] at h
                  refine zr_aload_n F zd_XSight_cutBySide_120 rfl ?_
                  refine zr_pcn 121 rfl ?_
                  refine zr_bipushv (v := 6) F zd_XSight_cutBySide_121 (by decide) ?_
                  refine zr_iload F zd_XSight_cutBySide_123 rfl ?_
                  refine zr_imul F zd_XSight_cutBySide_125 ?_
                  refine zr_lload F zd_XSight_cutBySide_126 rfl ?_
                  refine zr_bipushv (v := 6) F zd_XSight_cutBySide_128 (by decide) ?_
                  refine zr_iload F zd_XSight_cutBySide_130 rfl ?_
                  refine zr_imul F zd_XSight_cutBySide_132 ?_
                  refine zr_lload F zd_XSight_cutBySide_133 rfl ?_
                  refine zr_pcn 135 rfl ?_
                  refine zr_bipushv (v := 6) F zd_XSight_cutBySide_135 (by decide) ?_
                  refine zr_iload F zd_XSight_cutBySide_137 rfl ?_
                  refine zr_imul F zd_XSight_cutBySide_139 ?_
                  obtain ⟨le120, hs119, h⟩ := zoS_s h
                  obtain ⟨p121, ep121, h⟩ := zoB_s h
                  refine zr_callV0 F (k_XSight_putBetween l D tA b sh _ ep121) zd_XSight_cutBySide_140 (zW_o hs119 (by decide)) rfl zs_XSight_216 rfl zq_XSight_putBetween rfl rfl ⟨(Nat.le_of_ble_eq_true rfl), (Nat.le_of_ble_eq_true rfl)⟩ (Nat.le_of_ble_eq_true rfl) ⟨(Nat.le_of_ble_eq_true rfl), (Nat.le_of_ble_eq_true rfl)⟩ ?_
                  refine zr_iinc (v := (v6 + 1)) F zd_XSight_cutBySide_143 rfl rfl (by decide) ?_
                  refine zr_goto F 189 zd_XSight_cutBySide_146 (by decide) ?_
                  refine zr_lload F zd_XSight_cutBySide_189 rfl ?_
                  refine zr_lstore F zd_XSight_cutBySide_191 (by decide) ?_
                  refine zr_pcn 193 rfl ?_
                  refine zr_iinc (v := (v7 + 1)) F zd_XSight_cutBySide_193 rfl rfl (by decide) ?_
                  refine zr_goto F 16 zd_XSight_cutBySide_196 (by decide) ?_
                  refine zr_loc (L' := [(0, .ref (b + v0)), (1, .int v1), (2, .long v2), (4, .long v2), (6, .int (v6 + 1)), (7, .int (v7 + 1))]) ⟨rfl, rfl, rfl, rfl, rfl, rfl, trivial⟩ ?_
                  exact ih _ _ _ _ _ _ _ _ h hx0
            ·
              rw [if_neg hb106] at h
              refine zr_aload_n F zd_XSight_cutBySide_80 rfl ?_
              obtain ⟨le123, hs122, h⟩ := zoS_s h
              obtain ⟨a124, ea124, h⟩ := zoB_s h
              refine zr_get F 9 2 zd_XSight_cutBySide_81 (zW_o hs122 (by decide)) rfl (by decide) zw_375 rfl (by rfl) ?_
              refine zr_tor ea124 ?_
              refine zr_bipushv (v := 6) F zd_XSight_cutBySide_84 (by decide) ?_
              refine zr_iload F zd_XSight_cutBySide_86 rfl ?_
              refine zr_imul F zd_XSight_cutBySide_88 ?_
              refine zr_aload_n F zd_XSight_cutBySide_89 rfl ?_
              refine zr_pcn 90 rfl ?_
              obtain ⟨le126, hs125, h⟩ := zoS_s h
              obtain ⟨a127, ea127, h⟩ := zoB_s h
              refine zr_get F 9 14 zd_XSight_cutBySide_90 (zW_o hs125 (by decide)) rfl (by decide) zw_387 rfl (by rfl) ?_
              refine zr_tor ea127 ?_
              refine zr_bipushv (v := 6) F zd_XSight_cutBySide_93 (by decide) ?_
              refine zr_iload F zd_XSight_cutBySide_95 rfl ?_
              refine zr_imul F zd_XSight_cutBySide_97 ?_
              refine zr_bipushv (v := 6) F zd_XSight_cutBySide_98 (by decide) ?_
              obtain ⟨x128, ex128, h⟩ := zoL_s h
              rw [← ex128]
              obtain ⟨x129, ex129, h⟩ := zoL_s h
              rw [← ex129]
              obtain ⟨le130, hs131, h⟩ := zoS_s h
              obtain ⟨le132, hs133, h⟩ := zoS_s h
              obtain ⟨hc134, h⟩ := zoT_s h
              obtain ⟨mm135, emm135, h⟩ := zoL_s h
              refine zr_copy F zd_XSight_cutBySide_100 zw_722 zw_724 zw_723 zw_26 (zW_a0 hs131) (zW_a0 hs133) hc134.1 hc134.2.1 hc134.2.2.1 hc134.2.2.2.1 hc134.2.2.2.2 (Nat.le_of_ble_eq_true rfl) (Nat.le_of_ble_eq_true rfl) ?_
              refine zr_norm (zW tA b sh mm135) _ (by rw [emm135]; exact zW_c hs133) rfl ?_
              refine zr_iinc (v := (v6 + 1)) F zd_XSight_cutBySide_103 rfl rfl (by decide) ?_
              refine zr_lload F zd_XSight_cutBySide_106 rfl ?_
              refine zr_pcn 108 rfl ?_
              refine zr_lconstv (v := 0) F zd_XSight_cutBySide_108 (by decide) ?_
              refine zr_lcmp F zd_XSight_cutBySide_109 ?_
              refine zr_if_lt F 149 zd_XSight_cutBySide_110 (by decide) (fun hb136 => ?_) (fun hb136 => ?_)
              ·
                rw [if_pos hb136] at h
                refine zr_lload F zd_XSight_cutBySide_149 rfl ?_
                refine zr_lconstv (v := 0) F zd_XSight_cutBySide_151 (by decide) ?_
                refine zr_lcmp F zd_XSight_cutBySide_152 ?_
                refine zr_if_ge F 189 zd_XSight_cutBySide_153 (by decide) (fun hb137 => ?_) (fun hb137 => ?_)
                ·
                  rw [if_pos hb137] at h
                  refine zr_lload F zd_XSight_cutBySide_189 rfl ?_
                  refine zr_pcn 191 rfl ?_
                  refine zr_lstore F zd_XSight_cutBySide_191 (by decide) ?_
                  refine zr_iinc (v := (v7 + 1)) F zd_XSight_cutBySide_193 rfl rfl (by decide) ?_
                  refine zr_goto F 16 zd_XSight_cutBySide_196 (by decide) ?_
                  refine zr_loc (L' := [(0, .ref (b + v0)), (1, .int v1), (2, .long v2), (4, .long v2), (6, .int (v6 + 1)), (7, .int (v7 + 1))]) ⟨rfl, rfl, rfl, rfl, rfl, rfl, trivial⟩ ?_
                  exact ih _ _ _ _ _ _ _ _ h hx0
                ·
                  rw [if_neg hb137] at h
                  refine zr_lload F zd_XSight_cutBySide_156 rfl ?_
                  refine zr_lconstv (v := 0) F zd_XSight_cutBySide_158 (by decide) ?_
                  refine zr_lcmp F zd_XSight_cutBySide_159 ?_
                  refine zr_if_lt F 189 zd_XSight_cutBySide_160 (by decide) (fun hb138 => ?_) (fun hb138 => ?_)
                  ·
                    rw [if_pos hb138] at h
                    refine zr_lload F zd_XSight_cutBySide_189 rfl ?_
                    refine zr_pcn 191 rfl ?_
                    refine zr_lstore F zd_XSight_cutBySide_191 (by decide) ?_
                    refine zr_iinc (v := (v7 + 1)) F zd_XSight_cutBySide_193 rfl rfl (by decide) ?_
                    refine zr_goto F 16 zd_XSight_cutBySide_196 (by decide) ?_
                    refine zr_loc (L' := [(0, .ref (b + v0)), (1, .int v1), (2, .long v2), (4, .long v2), (6, .int (v6 + 1)), (7, .int (v7 + 1))]) ⟨rfl, rfl, rfl, rfl, rfl, rfl, trivial⟩ ?_
                    exact ih _ _ _ _ _ _ _ _ h hx0
                  ·
                    rw [if_neg hb138] at h
                    refine zr_aload_n F zd_XSight_cutBySide_163 rfl ?_
                    refine zr_bipushv (v := 6) F zd_XSight_cutBySide_164 (by decide) ?_
                    refine zr_iload F zd_XSight_cutBySide_166 rfl ?_
                    refine zr_imul F zd_XSight_cutBySide_168 ?_
                    refine zr_lload F zd_XSight_cutBySide_169 rfl ?_
                    refine zr_pcn 171 rfl ?_
                    refine zr_bipushv (v := 6) F zd_XSight_cutBySide_171 (by decide) ?_
                    refine zr_iload F zd_XSight_cutBySide_173 rfl ?_
                    refine zr_imul F zd_XSight_cutBySide_175 ?_
                    refine zr_lload F zd_XSight_cutBySide_176 rfl ?_
                    refine zr_bipushv (v := 6) F zd_XSight_cutBySide_178 (by decide) ?_
                    refine zr_iload F zd_XSight_cutBySide_180 rfl ?_
                    refine zr_imul F zd_XSight_cutBySide_182 ?_
                    obtain ⟨le140, hs139, h⟩ := zoS_s h
                    obtain ⟨p141, ep141, h⟩ := zoB_s h
                    refine zr_callV0 F (k_XSight_putBetween l D tA b sh _ ep141) zd_XSight_cutBySide_183 (zW_o hs139 (by decide)) rfl zs_XSight_216 rfl zq_XSight_putBetween rfl rfl ⟨(Nat.le_of_ble_eq_true rfl), (Nat.le_of_ble_eq_true rfl)⟩ (Nat.le_of_ble_eq_true rfl) ⟨(Nat.le_of_ble_eq_true rfl), (Nat.le_of_ble_eq_true rfl)⟩ ?_
                    refine zr_pcn 186 rfl ?_
                    refine zr_iinc (v := ((v6 + 1) + 1)) F zd_XSight_cutBySide_186 rfl rfl (by decide) ?_
                    refine zr_lload F zd_XSight_cutBySide_189 rfl ?_
                    refine zr_lstore F zd_XSight_cutBySide_191 (by decide) ?_
                    refine zr_iinc (v := (v7 + 1)) F zd_XSight_cutBySide_193 rfl rfl (by decide) ?_
                    refine zr_goto F 16 zd_XSight_cutBySide_196 (by decide) ?_
                    refine zr_loc (L' := [(0, .ref (b + v0)), (1, .int v1), (2, .long v2), (4, .long v2), (6, .int ((v6 + 1) + 1)), (7, .int (v7 + 1))]) ⟨rfl, rfl, rfl, rfl, rfl, rfl, trivial⟩ ?_
                    exact ih _ _ _ _ _ _ _ _ h hx0
              ·
                rw [if_neg hb136] at h
                refine zr_lload F zd_XSight_cutBySide_113 rfl ?_
                refine zr_lconstv (v := 0) F zd_XSight_cutBySide_115 (by decide) ?_
                refine zr_lcmp F zd_XSight_cutBySide_116 ?_
                refine zr_pcn 117 rfl ?_
                refine zr_if_ge F 149 zd_XSight_cutBySide_117 (by decide) (fun hb142 => ?_) (fun hb142 => ?_)
                ·
                  rw [if_pos hb142] at h
                  refine zr_lload F zd_XSight_cutBySide_149 rfl ?_
                  refine zr_lconstv (v := 0) F zd_XSight_cutBySide_151 (by decide) ?_
                  refine zr_lcmp F zd_XSight_cutBySide_152 ?_
                  refine zr_if_ge F 189 zd_XSight_cutBySide_153 (by decide) (fun hb143 => ?_) (fun hb143 => ?_)
                  ·
                    rw [if_pos hb143] at h
                    refine zr_lload F zd_XSight_cutBySide_189 rfl ?_
                    refine zr_lstore F zd_XSight_cutBySide_191 (by decide) ?_
                    refine zr_iinc (v := (v7 + 1)) F zd_XSight_cutBySide_193 rfl rfl (by decide) ?_
                    refine zr_pcn 196 rfl ?_
                    refine zr_goto F 16 zd_XSight_cutBySide_196 (by decide) ?_
                    refine zr_loc (L' := [(0, .ref (b + v0)), (1, .int v1), (2, .long v2), (4, .long v2), (6, .int (v6 + 1)), (7, .int (v7 + 1))]) ⟨rfl, rfl, rfl, rfl, rfl, rfl, trivial⟩ ?_
                    exact ih _ _ _ _ _ _ _ _ h hx0
                  ·
                    rw [if_neg hb143] at h
                    refine zr_lload F zd_XSight_cutBySide_156 rfl ?_
                    refine zr_lconstv (v := 0) F zd_XSight_cutBySide_158 (by decide) ?_
                    refine zr_lcmp F zd_XSight_cutBySide_159 ?_
                    refine zr_if_lt F 189 zd_XSight_cutBySide_160 (by decide) (fun hb144 => ?_) (fun hb144 => ?_)
                    ·
                      rw [if_pos hb144] at h
                      refine zr_lload F zd_XSight_cutBySide_189 rfl ?_
                      refine zr_lstore F zd_XSight_cutBySide_191 (by decide) ?_
                      refine zr_iinc (v := (v7 + 1)) F zd_XSight_cutBySide_193 rfl rfl (by decide) ?_
                      refine zr_pcn 196 rfl ?_
                      refine zr_goto F 16 zd_XSight_cutBySide_196 (by decide) ?_
                      refine zr_loc (L' := [(0, .ref (b + v0)), (1, .int v1), (2, .long v2), (4, .long v2), (6, .int (v6 + 1)), (7, .int (v7 + 1))]) ⟨rfl, rfl, rfl, rfl, rfl, rfl, trivial⟩ ?_
                      exact ih _ _ _ _ _ _ _ _ h hx0
                    ·
                      rw [if_neg hb144] at h
                      refine zr_aload_n F zd_XSight_cutBySide_163 rfl ?_
                      refine zr_bipushv (v := 6) F zd_XSight_cutBySide_164 (by decide) ?_
                      refine zr_iload F zd_XSight_cutBySide_166 rfl ?_
                      refine zr_imul F zd_XSight_cutBySide_168 ?_
                      refine zr_lload F zd_XSight_cutBySide_169 rfl ?_
                      refine zr_bipushv (v := 6) F zd_XSight_cutBySide_171 (by decide) ?_
                      refine zr_iload F zd_XSight_cutBySide_173 rfl ?_
                      refine zr_pcn 175 rfl ?_
                      refine zr_imul F zd_XSight_cutBySide_175 ?_
                      refine zr_lload F zd_XSight_cutBySide_176 rfl ?_
                      refine zr_bipushv (v := 6) F zd_XSight_cutBySide_178 (by decide) ?_
                      refine zr_iload F zd_XSight_cutBySide_180 rfl ?_
                      refine zr_imul F zd_XSight_cutBySide_182 ?_
                      obtain ⟨le146, hs145, h⟩ := zoS_s h
                      obtain ⟨p147, ep147, h⟩ := zoB_s h
                      refine zr_callV0 F (k_XSight_putBetween l D tA b sh _ ep147) zd_XSight_cutBySide_183 (zW_o hs145 (by decide)) rfl zs_XSight_216 rfl zq_XSight_putBetween rfl rfl ⟨(Nat.le_of_ble_eq_true rfl), (Nat.le_of_ble_eq_true rfl)⟩ (Nat.le_of_ble_eq_true rfl) ⟨(Nat.le_of_ble_eq_true rfl), (Nat.le_of_ble_eq_true rfl)⟩ ?_
                      refine zr_iinc (v := ((v6 + 1) + 1)) F zd_XSight_cutBySide_186 rfl rfl (by decide) ?_
                      refine zr_lload F zd_XSight_cutBySide_189 rfl ?_
                      refine zr_pcn 191 rfl ?_
                      refine zr_lstore F zd_XSight_cutBySide_191 (by decide) ?_
                      refine zr_iinc (v := (v7 + 1)) F zd_XSight_cutBySide_193 rfl rfl (by decide) ?_
                      refine zr_goto F 16 zd_XSight_cutBySide_196 (by decide) ?_
                      refine zr_loc (L' := [(0, .ref (b + v0)), (1, .int v1), (2, .long v2), (4, .long v2), (6, .int ((v6 + 1) + 1)), (7, .int (v7 + 1))]) ⟨rfl, rfl, rfl, rfl, rfl, rfl, trivial⟩ ?_
                      exact ih _ _ _ _ _ _ _ _ h hx0
                ·
                  rw [if_neg hb142] at h
                  refine zr_aload_n F zd_XSight_cutBySide_120 rfl ?_
                  refine zr_bipushv (v := 6) F zd_XSight_cutBySide_121 (by decide) ?_
                  refine zr_iload F zd_XSight_cutBySide_123 rfl ?_
                  refine zr_imul F zd_XSight_cutBySide_125 ?_
                  refine zr_lload F zd_XSight_cutBySide_126 rfl ?_
                  refine zr_pcn 128 rfl ?_
                  refine zr_bipushv (v := 6) F zd_XSight_cutBySide_128 (by decide) ?_
                  refine zr_iload F zd_XSight_cutBySide_130 rfl ?_
                  refine zr_imul F zd_XSight_cutBySide_132 ?_
                  refine zr_lload F zd_XSight_cutBySide_133 rfl ?_
                  refine zr_bipushv (v := 6) F zd_XSight_cutBySide_135 (by decide) ?_
                  refine zr_iload F zd_XSight_cutBySide_137 rfl ?_
                  refine zr_imul F zd_XSight_cutBySide_139 ?_
                  obtain ⟨le149, hs148, h⟩ := zoS_s h
                  obtain ⟨p150, ep150, h⟩ := zoB_s h
                  refine zr_callV0 F (k_XSight_putBetween l D tA b sh _ ep150) zd_XSight_cutBySide_140 (zW_o hs148 (by decide)) rfl zs_XSight_216 rfl zq_XSight_putBetween rfl rfl ⟨(Nat.le_of_ble_eq_true rfl), (Nat.le_of_ble_eq_true rfl)⟩ (Nat.le_of_ble_eq_true rfl) ⟨(Nat.le_of_ble_eq_true rfl), (Nat.le_of_ble_eq_true rfl)⟩ ?_
                  refine zr_pcn 143 rfl ?_
                  refine zr_iinc (v := ((v6 + 1) + 1)) F zd_XSight_cutBySide_143 rfl rfl (by decide) ?_
                  refine zr_goto F 189 zd_XSight_cutBySide_146 (by decide) ?_
                  refine zr_lload F zd_XSight_cutBySide_189 rfl ?_
                  refine zr_lstore F zd_XSight_cutBySide_191 (by decide) ?_
                  refine zr_iinc (v := (v7 + 1)) F zd_XSight_cutBySide_193 rfl rfl (by decide) ?_
                  refine zr_goto F 16 zd_XSight_cutBySide_196 (by decide) ?_
                  refine zr_loc (L' := [(0, .ref (b + v0)), (1, .int v1), (2, .long v2), (4, .long v2), (6, .int ((v6 + 1) + 1)), (7, .int (v7 + 1))]) ⟨rfl, rfl, rfl, rfl, rfl, rfl, trivial⟩ ?_
                  exact ih _ _ _ _ _ _ _ _ h hx0
theorem zf_R_9_14 (b : Nat) (m : zMem) (k : Nat) (v : Option Nat) : (zfl b 9 m k).set 14 (zrf b v) = zfl b 9 (mR m k 14 v) k := by simp [zfl, mR, upd, vp_updL]
theorem zf_R_9_2 (b : Nat) (m : zMem) (k : Nat) (v : Option Nat) : (zfl b 9 m k).set 2 (zrf b v) = zfl b 9 (mR m k 2 v) k := by simp [zfl, mR, upd, vp_updL]
theorem zf_I_9_3 (b : Nat) (m : zMem) (k : Nat) (v : Int32) : (zfl b 9 m k).set 3 (.int v) = zfl b 9 (mI m k 3 v) k := by simp [zfl, mI, upd, vp_updL]
def F_XSight_cutBySide (sh : zSh) (mm : zMem) (o : Nat) (x0_ : Int32) : Option zMem := zoS (sh o) 9 (fun le2 => Option.bind (F_XSight_sideOf sh mm o x0_ 0) (fun p3 => Option.bind (L_XSight_cutBySide_16 sh zfuel o x0_ (p3.1) (p3.1) 0 0 (p3.2)) (fun q151 => zoS (sh (q151.1)) 9 (fun le153 => Option.bind ((q151.2.2.2.2.2.2).2.2 (q151.1) 14) (fun a154 => zoS (sh (q151.1)) 9 (fun le156 => Option.bind ((q151.2.2.2.2.2.2).2.2 (q151.1) 2) (fun a157 => zoS (sh (q151.1)) 9 (fun le159 => zoL (mR (q151.2.2.2.2.2.2) (q151.1) 14 (some a157)) (fun mm160 => zoS (sh (q151.1)) 9 (fun le162 => zoL (mR mm160 (q151.1) 2 (some a154)) (fun mm163 => zoS (sh (q151.1)) 9 (fun le165 => zoL (mI mm163 (q151.1) 3 (q151.2.2.2.2.1)) (fun mm166 => some mm166)))))))))))))
set_option maxHeartbeats 4000000 in
set_option maxRecDepth 100000 in
theorem k_XSight_cutBySide (l : Launch) (D : va_G) (tA : Nat → ClassId) (b : Nat) (sh : zSh) (n : Nat) {mm : zMem} {o : Nat} {x0_ : Int32} {r : zMem} (h : F_XSight_cutBySide sh mm o x0_ = some r) : zM l D tA b zy_XSight_cutBySide zb_XSight_cutBySide 11 none 2 60 0 0 [.ref (b + o), .int x0_] (zW tA b sh mm) n (zE none (zW tA b sh r) n) := by
  unfold F_XSight_cutBySide at h
  refine zM_of (own := "OrreryBox$Sight") (plainFor_of_name (by decide)) rfl (Nat.le_of_ble_eq_true rfl) (fun p e s m below meth c F hr hin hH => ?_)
  refine zr_aload_n F zd_XSight_cutBySide_0 rfl ?_
  refine zr_iload_n F zd_XSight_cutBySide_1 rfl ?_
  refine zr_iconstv (v := 0) F zd_XSight_cutBySide_2 (by decide) ?_
  obtain ⟨le2, hs1, h⟩ := zoS_s h
  obtain ⟨p3, ep3, h⟩ := zoB_s h
  refine zr_callV1 F (k_XSight_sideOf l D tA b sh _ ep3) zd_XSight_cutBySide_3 (zW_o hs1 (by decide)) rfl zs_XSight_212 rfl zq_XSight_sideOf rfl rfl ⟨(Nat.le_of_ble_eq_true rfl), (Nat.le_of_ble_eq_true rfl)⟩ (Nat.le_of_ble_eq_true rfl) ⟨(Nat.le_of_ble_eq_true rfl), (Nat.le_of_ble_eq_true rfl)⟩ ?_
  refine zr_lstore_n F zd_XSight_cutBySide_6 (by decide) ?_
  refine zr_lload_n F zd_XSight_cutBySide_7 rfl ?_
  refine zr_lstore F zd_XSight_cutBySide_8 (by decide) ?_
  refine zr_pcn 10 rfl ?_
  refine zr_iconstv (v := 0) F zd_XSight_cutBySide_10 (by decide) ?_
  refine zr_istore F zd_XSight_cutBySide_11 (by decide) ?_
  refine zr_iconstv (v := 0) F zd_XSight_cutBySide_13 (by decide) ?_
  refine zr_istore F zd_XSight_cutBySide_14 (by decide) ?_
  obtain ⟨q151, eq151, h⟩ := zoB_s h
  refine zr_loc (L' := [(0, .ref (b + o)), (1, .int x0_), (2, .long (p3.1)), (4, .long (p3.1)), (6, .int 0), (7, .int 0)]) ⟨rfl, rfl, rfl, rfl, rfl, rfl, trivial⟩ ?_
  refine lp_XSight_cutBySide_16 F _ _ _ _ _ _ _ _ _ eq151 ?_
  ·
    refine zr_aload_n F zd_XSight_cutBySide_199 rfl ?_
    obtain ⟨le153, hs152, h⟩ := zoS_s h
    obtain ⟨a154, ea154, h⟩ := zoB_s h
    refine zr_get F 9 14 zd_XSight_cutBySide_200 (zW_o hs152 (by decide)) rfl (by decide) zw_387 rfl (by rfl) ?_
    refine zr_tor ea154 ?_
    refine zr_pcn 203 rfl ?_
    refine zr_astore F zd_XSight_cutBySide_203 (by decide) ?_
    refine zr_aload_n F zd_XSight_cutBySide_205 rfl ?_
    refine zr_aload_n F zd_XSight_cutBySide_206 rfl ?_
    obtain ⟨le156, hs155, h⟩ := zoS_s h
    obtain ⟨a157, ea157, h⟩ := zoB_s h
    refine zr_get F 9 2 zd_XSight_cutBySide_207 (zW_o hs155 (by decide)) rfl (by decide) zw_375 rfl (by rfl) ?_
    refine zr_tor ea157 ?_
    obtain ⟨le159, hs158, h⟩ := zoS_s h
    refine zr_put F 9 14 zd_XSight_cutBySide_210 (zW_o hs158 (by decide)) rfl (by decide) zw_387 rfl rfl rfl rfl (by exact (Nat.le_of_ble_eq_true rfl)) ?_
    obtain ⟨mm160, emm160, h⟩ := zoL_s h
    refine zr_norm (zW tA b sh mm160) _ (by rw [emm160]; exact zW_pR (v := (some a157)) hs158 (by decide) (zf_R_9_14 b _ _ _)) rfl ?_
    refine zr_aload_n F zd_XSight_cutBySide_213 rfl ?_
    refine zr_aload F zd_XSight_cutBySide_214 rfl ?_
    obtain ⟨le162, hs161, h⟩ := zoS_s h
    refine zr_put F 9 2 zd_XSight_cutBySide_216 (zW_o hs161 (by decide)) rfl (by decide) zw_375 rfl rfl rfl rfl (by exact (Nat.le_of_ble_eq_true rfl)) ?_
    obtain ⟨mm163, emm163, h⟩ := zoL_s h
    refine zr_norm (zW tA b sh mm163) _ (by rw [emm163]; exact zW_pR (v := (some a154)) hs161 (by decide) (zf_R_9_2 b _ _ _)) rfl ?_
    refine zr_pcn 219 rfl ?_
    refine zr_aload_n F zd_XSight_cutBySide_219 rfl ?_
    refine zr_iload F zd_XSight_cutBySide_220 rfl ?_
    obtain ⟨le165, hs164, h⟩ := zoS_s h
    refine zr_put F 9 3 zd_XSight_cutBySide_222 (zW_o hs164 (by decide)) rfl (by decide) zw_376 rfl rfl rfl rfl (by exact (Nat.le_of_ble_eq_true rfl)) ?_
    obtain ⟨mm166, emm166, h⟩ := zoL_s h
    refine zr_norm (zW tA b sh mm166) _ (by rw [emm166]; exact zW_pI (v := (q151.2.2.2.2.1)) hs164 (by decide) (zf_I_9_3 b _ _ _)) rfl ?_
    obtain rfl := Option.some.inj h
    exact zr_vret F hr zd_XSight_cutBySide_225 (Nat.le_of_ble_eq_true rfl) (Nat.le_of_ble_eq_true rfl) ⟨rfl, rfl, rfl⟩
abbrev zb_XTexture_halve : ByteArray := prog_11_method_3_code
def zy_XTexture_halve : MethodName := ⟨"OrreryBox$Texture", "halve", "(III)V"⟩
theorem zc_XTexture_halve : Cond.code zy_XTexture_halve zb_XTexture_halve 8 none ∈ gw := gw_t 1239 (by decide +kernel) rfl
theorem zq_XTexture_halve : zy_XTexture_halve.cls ≠ "java/lang/invoke/MethodHandle" ∧ zy_XTexture_halve.cls ≠ "java/lang/invoke/VarHandle" ∧ (parseMethodDescriptor zy_XTexture_halve.desc).map (fun d => d.parameters.length) = some 3 := by decide +kernel
theorem zd_XTexture_halve_0 : decode zb_XTexture_halve 0 = .ok (.iload_n 2, 1) := by decide +kernel
theorem zd_XTexture_halve_1 : decode zb_XTexture_halve 1 = .ok (.iconst 2, 1) := by decide +kernel
theorem zd_XTexture_halve_2 : decode zb_XTexture_halve 2 = .ok (.idiv, 1) := by decide +kernel
theorem zd_XTexture_halve_3 : decode zb_XTexture_halve 3 = .ok (.istore 4, 2) := by decide +kernel
theorem zd_XTexture_halve_5 : decode zb_XTexture_halve 5 = .ok (.iconst 0, 1) := by decide +kernel
theorem zd_XTexture_halve_6 : decode zb_XTexture_halve 6 = .ok (.istore 5, 2) := by decide +kernel
theorem zd_XTexture_halve_8 : decode zb_XTexture_halve 8 = .ok (.iload 5, 2) := by decide +kernel
theorem zd_XTexture_halve_10 : decode zb_XTexture_halve 10 = .ok (.iload 4, 2) := by decide +kernel
theorem zd_XTexture_halve_12 : decode zb_XTexture_halve 12 = .ok (.if_icmp .ge 94, 3) := by decide +kernel
theorem zd_XTexture_halve_15 : decode zb_XTexture_halve 15 = .ok (.iconst 0, 1) := by decide +kernel
theorem zd_XTexture_halve_16 : decode zb_XTexture_halve 16 = .ok (.istore 6, 2) := by decide +kernel
theorem zd_XTexture_halve_18 : decode zb_XTexture_halve 18 = .ok (.iload 6, 2) := by decide +kernel
theorem zd_XTexture_halve_20 : decode zb_XTexture_halve 20 = .ok (.iload 4, 2) := by decide +kernel
theorem zd_XTexture_halve_22 : decode zb_XTexture_halve 22 = .ok (.if_icmp .ge 78, 3) := by decide +kernel
theorem zd_XTexture_halve_25 : decode zb_XTexture_halve 25 = .ok (.iload_n 1, 1) := by decide +kernel
theorem zd_XTexture_halve_26 : decode zb_XTexture_halve 26 = .ok (.iconst 2, 1) := by decide +kernel
theorem zd_XTexture_halve_27 : decode zb_XTexture_halve 27 = .ok (.iload 5, 2) := by decide +kernel
theorem zd_XTexture_halve_29 : decode zb_XTexture_halve 29 = .ok (.imul, 1) := by decide +kernel
theorem zd_XTexture_halve_30 : decode zb_XTexture_halve 30 = .ok (.iload_n 2, 1) := by decide +kernel
theorem zd_XTexture_halve_31 : decode zb_XTexture_halve 31 = .ok (.imul, 1) := by decide +kernel
theorem zd_XTexture_halve_32 : decode zb_XTexture_halve 32 = .ok (.iadd, 1) := by decide +kernel
theorem zd_XTexture_halve_33 : decode zb_XTexture_halve 33 = .ok (.iconst 2, 1) := by decide +kernel
theorem zd_XTexture_halve_34 : decode zb_XTexture_halve 34 = .ok (.iload 6, 2) := by decide +kernel
theorem zd_XTexture_halve_36 : decode zb_XTexture_halve 36 = .ok (.imul, 1) := by decide +kernel
theorem zd_XTexture_halve_37 : decode zb_XTexture_halve 37 = .ok (.iadd, 1) := by decide +kernel
theorem zd_XTexture_halve_38 : decode zb_XTexture_halve 38 = .ok (.istore 7, 2) := by decide +kernel
theorem zd_XTexture_halve_40 : decode zb_XTexture_halve 40 = .ok (.aload_n 0, 1) := by decide +kernel
theorem zd_XTexture_halve_41 : decode zb_XTexture_halve 41 = .ok (.getfield 7, 3) := by decide +kernel
theorem zd_XTexture_halve_44 : decode zb_XTexture_halve 44 = .ok (.iload_n 3, 1) := by decide +kernel
theorem zd_XTexture_halve_45 : decode zb_XTexture_halve 45 = .ok (.iload 5, 2) := by decide +kernel
theorem zd_XTexture_halve_47 : decode zb_XTexture_halve 47 = .ok (.iload 4, 2) := by decide +kernel
theorem zd_XTexture_halve_49 : decode zb_XTexture_halve 49 = .ok (.imul, 1) := by decide +kernel
theorem zd_XTexture_halve_50 : decode zb_XTexture_halve 50 = .ok (.iadd, 1) := by decide +kernel
theorem zd_XTexture_halve_51 : decode zb_XTexture_halve 51 = .ok (.iload 6, 2) := by decide +kernel
theorem zd_XTexture_halve_53 : decode zb_XTexture_halve 53 = .ok (.iadd, 1) := by decide +kernel
theorem zd_XTexture_halve_54 : decode zb_XTexture_halve 54 = .ok (.aload_n 0, 1) := by decide +kernel
theorem zd_XTexture_halve_55 : decode zb_XTexture_halve 55 = .ok (.getfield 7, 3) := by decide +kernel
theorem zd_XTexture_halve_58 : decode zb_XTexture_halve 58 = .ok (.iload 7, 2) := by decide +kernel
theorem zd_XTexture_halve_60 : decode zb_XTexture_halve 60 = .ok (.iaload, 1) := by decide +kernel
theorem zd_XTexture_halve_61 : decode zb_XTexture_halve 61 = .ok (.aload_n 0, 1) := by decide +kernel
theorem zd_XTexture_halve_62 : decode zb_XTexture_halve 62 = .ok (.getfield 7, 3) := by decide +kernel
theorem zd_XTexture_halve_65 : decode zb_XTexture_halve 65 = .ok (.iload 7, 2) := by decide +kernel
theorem zd_XTexture_halve_67 : decode zb_XTexture_halve 67 = .ok (.iconst 1, 1) := by decide +kernel
theorem zd_XTexture_halve_68 : decode zb_XTexture_halve 68 = .ok (.iadd, 1) := by decide +kernel
theorem zd_XTexture_halve_69 : decode zb_XTexture_halve 69 = .ok (.iaload, 1) := by decide +kernel
theorem zd_XTexture_halve_70 : decode zb_XTexture_halve 70 = .ok (.aload_n 0, 1) := by decide +kernel
theorem zd_XTexture_halve_71 : decode zb_XTexture_halve 71 = .ok (.getfield 7, 3) := by decide +kernel
theorem zd_XTexture_halve_74 : decode zb_XTexture_halve 74 = .ok (.iload 7, 2) := by decide +kernel
theorem zd_XTexture_halve_76 : decode zb_XTexture_halve 76 = .ok (.iload_n 2, 1) := by decide +kernel
theorem zd_XTexture_halve_77 : decode zb_XTexture_halve 77 = .ok (.iadd, 1) := by decide +kernel
theorem zd_XTexture_halve_78 : decode zb_XTexture_halve 78 = .ok (.iaload, 1) := by decide +kernel
theorem zd_XTexture_halve_79 : decode zb_XTexture_halve 79 = .ok (.aload_n 0, 1) := by decide +kernel
theorem zd_XTexture_halve_80 : decode zb_XTexture_halve 80 = .ok (.getfield 7, 3) := by decide +kernel
theorem zd_XTexture_halve_83 : decode zb_XTexture_halve 83 = .ok (.iload 7, 2) := by decide +kernel
theorem zd_XTexture_halve_85 : decode zb_XTexture_halve 85 = .ok (.iload_n 2, 1) := by decide +kernel
theorem zd_XTexture_halve_86 : decode zb_XTexture_halve 86 = .ok (.iadd, 1) := by decide +kernel
theorem zd_XTexture_halve_87 : decode zb_XTexture_halve 87 = .ok (.iconst 1, 1) := by decide +kernel
theorem zd_XTexture_halve_88 : decode zb_XTexture_halve 88 = .ok (.iadd, 1) := by decide +kernel
theorem zd_XTexture_halve_89 : decode zb_XTexture_halve 89 = .ok (.iaload, 1) := by decide +kernel
theorem zd_XTexture_halve_90 : decode zb_XTexture_halve 90 = .ok (.invokestatic 27, 3) := by decide +kernel
theorem zd_XTexture_halve_93 : decode zb_XTexture_halve 93 = .ok (.iastore, 1) := by decide +kernel
theorem zd_XTexture_halve_94 : decode zb_XTexture_halve 94 = .ok (.iinc 6 1, 3) := by decide +kernel
theorem zd_XTexture_halve_97 : decode zb_XTexture_halve 97 = .ok (.goto (-79), 3) := by decide +kernel
theorem zd_XTexture_halve_100 : decode zb_XTexture_halve 100 = .ok (.iinc 5 1, 3) := by decide +kernel
theorem zd_XTexture_halve_103 : decode zb_XTexture_halve 103 = .ok (.goto (-95), 3) := by decide +kernel
theorem zd_XTexture_halve_106 : decode zb_XTexture_halve 106 = .ok (.return_, 1) := by decide +kernel
theorem zw_1240 : (Jvm.Cond.methodLink "OrreryBox$Texture" (27 : Nat) ({ cls := "OrreryBox$Texture", name := "mean", desc := "(IIII)I" } : Jvm.MethodName)) ∈ gw := gw_t 1240 (by decide +kernel) rfl
theorem zw_1241 : (Jvm.Cond.static ({ cls := "OrreryBox$Texture", name := "mean", desc := "(IIII)I" } : Jvm.MethodName)) ∈ gw := gw_t 1241 (by decide +kernel) rfl
theorem zs_XTexture_27 : zwS "OrreryBox$Texture" 27 zy_XTexture_mean zb_XTexture_mean 7 (some .int) := ⟨zw_1240, zw_1241, zw_6, zc_XTexture_mean⟩
def L_XTexture_halve_18 (sh : zSh) (fuel : Nat) (v0 : Nat) (v1 : Int32) (v2 : Int32) (v3 : Int32) (v4 : Int32) (v5 : Int32) (v6 : Int32) (mm : zMem) : Option (Nat × Int32 × Int32 × Int32 × Int32 × Int32 × Int32 × zMem) := match fuel with
  | 0 => none
  | fu + 1 => (if v4 ≤ v6 then some (v0, v1, v2, v3, v4, v5, v6, mm) else zoL ((v1 + ((2 * v5) * v2)) + (2 * v6)) (fun x4 => zoS (sh v0) 10 (fun le6 => Option.bind (mm.2.2 v0 4) (fun a7 => zoS (sh v0) 10 (fun le9 => Option.bind (mm.2.2 v0 4) (fun a10 => zoS (sh a10) 100 (fun le12 => if (x4 : Int32) < 0 ∨ le12 ≤ (x4 : Int32).toNatClampNeg then none else zoS (sh v0) 10 (fun le15 => Option.bind (mm.2.2 v0 4) (fun a16 => zoL (x4 + 1) (fun i17 => zoS (sh a16) 100 (fun le19 => if (i17 : Int32) < 0 ∨ le19 ≤ (i17 : Int32).toNatClampNeg then none else zoS (sh v0) 10 (fun le22 => Option.bind (mm.2.2 v0 4) (fun a23 => zoL (x4 + v2) (fun i24 => zoS (sh a23) 100 (fun le26 => if (i24 : Int32) < 0 ∨ le26 ≤ (i24 : Int32).toNatClampNeg then none else zoS (sh v0) 10 (fun le29 => Option.bind (mm.2.2 v0 4) (fun a30 => zoL ((x4 + v2) + 1) (fun i31 => zoS (sh a30) 100 (fun le33 => if (i31 : Int32) < 0 ∨ le33 ≤ (i31 : Int32).toNatClampNeg then none else zoL (mm.1 a10 (x4 : Int32).toNatClampNeg) (fun x35 => zoL (mm.1 a16 (i17 : Int32).toNatClampNeg) (fun x36 => zoL (mm.1 a23 (i24 : Int32).toNatClampNeg) (fun x37 => zoL (mm.1 a30 (i31 : Int32).toNatClampNeg) (fun x38 => Option.bind (F_XTexture_mean sh mm x35 x36 x37 x38) (fun p39 => zoL ((v3 + (v5 * v4)) + v6) (fun i40 => zoS (sh a7) 100 (fun le42 => if (i40 : Int32) < 0 ∨ le42 ≤ (i40 : Int32).toNatClampNeg then none else zoL (mI (p39.2) a7 (i40 : Int32).toNatClampNeg (p39.1)) (fun mm44 => L_XTexture_halve_18 sh fu v0 v1 v2 v3 v4 v5 (v6 + 1) mm44)))))))))))))))))))))))))))
set_option maxHeartbeats 4000000 in
set_option maxRecDepth 100000 in
theorem lp_XTexture_halve_18 {p : Program} {l : Launch} {e : Env} {s : State} {m : MethodId} {args : Array Value} {below : List Frame} {meth : Method} {c : Code} {D : va_G} {tA : Nat → ClassId} {b n : Nat} {post : Option Value → zV → Nat → Prop} {sh : zSh} (F : zF p s m args meth c zb_XTexture_halve 8 "OrreryBox$Texture" D tA b) : ∀ (fuel : Nat) (v0 : Nat) (v1 : Int32) (v2 : Int32) (v3 : Int32) (v4 : Int32) (v5 : Int32) (v6 : Int32) (mm : zMem) (r : Nat × Int32 × Int32 × Int32 × Int32 × Int32 × Int32 × zMem), L_XTexture_halve_18 sh fuel v0 v1 v2 v3 v4 v5 v6 mm = some r → (Z p l e { frames := 1, cells := 0, slots := 0, locals := 26 } s m args below meth c D b 8 (MQ below (zQ D b post) args s 0 0 (fun q => b ≤ q)) (zW tA b sh r.2.2.2.2.2.2.2) n 0 0 100 [(0, .ref (b + (r.1))), (1, .int (r.2.1)), (2, .int (r.2.2.1)), (3, .int (r.2.2.2.1)), (4, .int (r.2.2.2.2.1)), (5, .int (r.2.2.2.2.2.1)), (6, .int (r.2.2.2.2.2.2.1))] []) → Z p l e { frames := 1, cells := 0, slots := 0, locals := 26 } s m args below meth c D b 8 (MQ below (zQ D b post) args s 0 0 (fun q => b ≤ q)) (zW tA b sh mm) n 0 0 18 [(0, .ref (b + v0)), (1, .int v1), (2, .int v2), (3, .int v3), (4, .int v4), (5, .int v5), (6, .int v6)] [] := by
  intro fuel
  induction fuel with
  | zero =>
    intro v0 v1 v2 v3 v4 v5 v6 mm r h
    cases h
  | succ fu ih =>
    intro v0 v1 v2 v3 v4 v5 v6 mm r h hx0
    rw [L_XTexture_halve_18] at h
    refine zr_iload F zd_XTexture_halve_18 rfl ?_
    refine zr_iload F zd_XTexture_halve_20 rfl ?_
    refine zr_icmp_ge F 100 zd_XTexture_halve_22 (by decide) (fun hb3 => ?_) (fun hb3 => ?_)
    ·
      rw [if_pos hb3] at h
      obtain rfl := Option.some.inj h
      refine zr_loc (L' := [(0, .ref (b + v0)), (1, .int v1), (2, .int v2), (3, .int v3), (4, .int v4), (5, .int v5), (6, .int v6)]) ⟨rfl, rfl, rfl, rfl, rfl, rfl, rfl, trivial⟩ ?_
      exact hx0 
    ·
      rw [if_neg hb3] at h
      refine zr_iload_n F zd_XTexture_halve_25 rfl ?_
      refine zr_pcn 26 rfl ?_
      refine zr_iconstv (v := 2) F zd_XTexture_halve_26 (by decide) ?_
      refine zr_iload F zd_XTexture_halve_27 rfl ?_
      refine zr_imul F zd_XTexture_halve_29 ?_
      refine zr_iload_n F zd_XTexture_halve_30 rfl ?_
      refine zr_imul F zd_XTexture_halve_31 ?_
      refine zr_iadd F zd_XTexture_halve_32 ?_
      refine zr_iconstv (v := 2) F zd_XTexture_halve_33 (by decide) ?_
      refine zr_iload F zd_XTexture_halve_34 rfl ?_
      refine zr_pcn 36 rfl ?_
      refine zr_imul F zd_XTexture_halve_36 ?_
      refine zr_iadd F zd_XTexture_halve_37 ?_
      obtain ⟨x4, ex4, h⟩ := zoL_s h
      rw [← ex4]
      refine zr_istore F zd_XTexture_halve_38 (by decide) ?_
      refine zr_aload_n F zd_XTexture_halve_40 rfl ?_
      obtain ⟨le6, hs5, h⟩ := zoS_s h
      obtain ⟨a7, ea7, h⟩ := zoB_s h
      refine zr_get F 10 4 zd_XTexture_halve_41 (zW_o hs5 (by decide)) rfl (by decide) zw_155 rfl (by rfl) ?_
      refine zr_tor ea7 ?_
      refine zr_iload_n F zd_XTexture_halve_44 rfl ?_
      refine zr_iload F zd_XTexture_halve_45 rfl ?_
      refine zr_iload F zd_XTexture_halve_47 rfl ?_
      refine zr_pcn 49 rfl ?_
      refine zr_imul F zd_XTexture_halve_49 ?_
      refine zr_iadd F zd_XTexture_halve_50 ?_
      refine zr_iload F zd_XTexture_halve_51 rfl ?_
      refine zr_iadd F zd_XTexture_halve_53 ?_
      refine zr_aload_n F zd_XTexture_halve_54 rfl ?_
      obtain ⟨le9, hs8, h⟩ := zoS_s h
      obtain ⟨a10, ea10, h⟩ := zoB_s h
      refine zr_get F 10 4 zd_XTexture_halve_55 (zW_o hs8 (by decide)) rfl (by decide) zw_155 rfl (by rfl) ?_
      refine zr_tor ea10 ?_
      refine zr_iload F zd_XTexture_halve_58 rfl ?_
      obtain ⟨le12, hs11, h⟩ := zoS_s h
      obtain ⟨hi13, h⟩ := zoI_s h
      refine zr_iald F zd_XTexture_halve_60 (zW_a0 hs11) hi13 ?_
      refine zr_pcn 61 rfl ?_
      refine zr_aload_n F zd_XTexture_halve_61 rfl ?_
      obtain ⟨le15, hs14, h⟩ := zoS_s h
      obtain ⟨a16, ea16, h⟩ := zoB_s h
      refine zr_get F 10 4 zd_XTexture_halve_62 (zW_o hs14 (by decide)) rfl (by decide) zw_155 rfl (by rfl) ?_
      refine zr_tor ea16 ?_
      refine zr_iload F zd_XTexture_halve_65 rfl ?_
      refine zr_iconstv (v := 1) F zd_XTexture_halve_67 (by decide) ?_
      refine zr_iadd F zd_XTexture_halve_68 ?_
      obtain ⟨i17, ei17, h⟩ := zoL_s h
      rw [← ei17]
      obtain ⟨le19, hs18, h⟩ := zoS_s h
      obtain ⟨hi20, h⟩ := zoI_s h
      refine zr_iald F zd_XTexture_halve_69 (zW_a0 hs18) hi20 ?_
      refine zr_aload_n F zd_XTexture_halve_70 rfl ?_
      obtain ⟨le22, hs21, h⟩ := zoS_s h
      obtain ⟨a23, ea23, h⟩ := zoB_s h
      refine zr_get F 10 4 zd_XTexture_halve_71 (zW_o hs21 (by decide)) rfl (by decide) zw_155 rfl (by rfl) ?_
      refine zr_tor ea23 ?_
      refine zr_pcn 74 rfl ?_
      refine zr_iload F zd_XTexture_halve_74 rfl ?_
      refine zr_iload_n F zd_XTexture_halve_76 rfl ?_
      refine zr_iadd F zd_XTexture_halve_77 ?_
      obtain ⟨i24, ei24, h⟩ := zoL_s h
      rw [← ei24]
      obtain ⟨le26, hs25, h⟩ := zoS_s h
      obtain ⟨hi27, h⟩ := zoI_s h
      refine zr_iald F zd_XTexture_halve_78 (zW_a0 hs25) hi27 ?_
      refine zr_aload_n F zd_XTexture_halve_79 rfl ?_
      obtain ⟨le29, hs28, h⟩ := zoS_s h
      obtain ⟨a30, ea30, h⟩ := zoB_s h
      refine zr_get F 10 4 zd_XTexture_halve_80 (zW_o hs28 (by decide)) rfl (by decide) zw_155 rfl (by rfl) ?_
      refine zr_tor ea30 ?_
      refine zr_iload F zd_XTexture_halve_83 rfl ?_
      refine zr_iload_n F zd_XTexture_halve_85 rfl ?_
      refine zr_pcn 86 rfl ?_
      refine zr_iadd F zd_XTexture_halve_86 ?_
      refine zr_iconstv (v := 1) F zd_XTexture_halve_87 (by decide) ?_
      refine zr_iadd F zd_XTexture_halve_88 ?_
      obtain ⟨i31, ei31, h⟩ := zoL_s h
      rw [← ei31]
      obtain ⟨le33, hs32, h⟩ := zoS_s h
      obtain ⟨hi34, h⟩ := zoI_s h
      refine zr_iald F zd_XTexture_halve_89 (zW_a0 hs32) hi34 ?_
      obtain ⟨x35, ex35, h⟩ := zoL_s h
      rw [← ex35]
      obtain ⟨x36, ex36, h⟩ := zoL_s h
      rw [← ex36]
      obtain ⟨x37, ex37, h⟩ := zoL_s h
      rw [← ex37]
      obtain ⟨x38, ex38, h⟩ := zoL_s h
      rw [← ex38]
      obtain ⟨p39, ep39, h⟩ := zoB_s h
      refine zr_callS1 F (k_XTexture_mean l D tA b sh _ ep39) zd_XTexture_halve_90 zs_XTexture_27 zq_XTexture_mean rfl rfl ⟨(Nat.le_of_ble_eq_true rfl), (Nat.le_of_ble_eq_true rfl)⟩ (Nat.le_of_ble_eq_true rfl) ⟨(Nat.le_of_ble_eq_true rfl), (Nat.le_of_ble_eq_true rfl)⟩ ?_
      obtain ⟨i40, ei40, h⟩ := zoL_s h
      rw [← ei40]
      obtain ⟨le42, hs41, h⟩ := zoS_s h
      obtain ⟨hi43, h⟩ := zoI_s h
      refine zr_iast F zd_XTexture_halve_93 (zW_a0 hs41) hi43 ?_
      obtain ⟨mm44, emm44, h⟩ := zoL_s h
      refine zr_norm (zW tA b sh mm44) _ (by rw [emm44]; exact zW_s0 hs41) rfl ?_
      refine zr_iinc (v := (v6 + 1)) F zd_XTexture_halve_94 rfl rfl (by decide) ?_
      refine zr_goto F 18 zd_XTexture_halve_97 (by decide) ?_
      refine zr_loc (L' := [(0, .ref (b + v0)), (1, .int v1), (2, .int v2), (3, .int v3), (4, .int v4), (5, .int v5), (6, .int (v6 + 1))]) ⟨rfl, rfl, rfl, rfl, rfl, rfl, rfl, trivial⟩ ?_
      exact ih _ _ _ _ _ _ _ _ _ h hx0
def L_XTexture_halve_8 (sh : zSh) (fuel : Nat) (v0 : Nat) (v1 : Int32) (v2 : Int32) (v3 : Int32) (v4 : Int32) (v5 : Int32) (mm : zMem) : Option (Nat × Int32 × Int32 × Int32 × Int32 × Int32 × zMem) := match fuel with
  | 0 => none
  | fu + 1 => (if v4 ≤ v5 then some (v0, v1, v2, v3, v4, v5, mm) else Option.bind (L_XTexture_halve_18 sh zfuel v0 v1 v2 v3 v4 v5 0 mm) (fun q45 => L_XTexture_halve_8 sh fu (q45.1) (q45.2.1) (q45.2.2.1) (q45.2.2.2.1) (q45.2.2.2.2.1) (q45.2.2.2.2.2.1 + 1) (q45.2.2.2.2.2.2.2)))
set_option maxHeartbeats 4000000 in
set_option maxRecDepth 100000 in
theorem lp_XTexture_halve_8 {p : Program} {l : Launch} {e : Env} {s : State} {m : MethodId} {args : Array Value} {below : List Frame} {meth : Method} {c : Code} {D : va_G} {tA : Nat → ClassId} {b n : Nat} {post : Option Value → zV → Nat → Prop} {sh : zSh} (F : zF p s m args meth c zb_XTexture_halve 8 "OrreryBox$Texture" D tA b) : ∀ (fuel : Nat) (v0 : Nat) (v1 : Int32) (v2 : Int32) (v3 : Int32) (v4 : Int32) (v5 : Int32) (mm : zMem) (r : Nat × Int32 × Int32 × Int32 × Int32 × Int32 × zMem), L_XTexture_halve_8 sh fuel v0 v1 v2 v3 v4 v5 mm = some r → (Z p l e { frames := 1, cells := 0, slots := 0, locals := 26 } s m args below meth c D b 8 (MQ below (zQ D b post) args s 0 0 (fun q => b ≤ q)) (zW tA b sh r.2.2.2.2.2.2) n 0 0 106 [(0, .ref (b + (r.1))), (1, .int (r.2.1)), (2, .int (r.2.2.1)), (3, .int (r.2.2.2.1)), (4, .int (r.2.2.2.2.1)), (5, .int (r.2.2.2.2.2.1))] []) → Z p l e { frames := 1, cells := 0, slots := 0, locals := 26 } s m args below meth c D b 8 (MQ below (zQ D b post) args s 0 0 (fun q => b ≤ q)) (zW tA b sh mm) n 0 0 8 [(0, .ref (b + v0)), (1, .int v1), (2, .int v2), (3, .int v3), (4, .int v4), (5, .int v5)] [] := by
  intro fuel
  induction fuel with
  | zero =>
    intro v0 v1 v2 v3 v4 v5 mm r h
    cases h
  | succ fu ih =>
    intro v0 v1 v2 v3 v4 v5 mm r h hx0
    rw [L_XTexture_halve_8] at h
    refine zr_iload F zd_XTexture_halve_8 rfl ?_
    refine zr_pcn 10 rfl ?_
    refine zr_iload F zd_XTexture_halve_10 rfl ?_
    refine zr_icmp_ge F 106 zd_XTexture_halve_12 (by decide) (fun hb2 => ?_) (fun hb2 => ?_)
    ·
      rw [if_pos hb2] at h
      obtain rfl := Option.some.inj h
      refine zr_loc (L' := [(0, .ref (b + v0)), (1, .int v1), (2, .int v2), (3, .int v3), (4, .int v4), (5, .int v5)]) ⟨rfl, rfl, rfl, rfl, rfl, rfl, trivial⟩ ?_
      exact hx0 
    ·
      rw [if_neg hb2] at h
      refine zr_iconstv (v := 0) F zd_XTexture_halve_15 (by decide) ?_
      refine zr_istore F zd_XTexture_halve_16 (by decide) ?_
      obtain ⟨q45, eq45, h⟩ := zoB_s h
      refine zr_loc (L' := [(0, .ref (b + v0)), (1, .int v1), (2, .int v2), (3, .int v3), (4, .int v4), (5, .int v5), (6, .int 0)]) ⟨rfl, rfl, rfl, rfl, rfl, rfl, rfl, trivial⟩ ?_
      refine lp_XTexture_halve_18 F _ _ _ _ _ _ _ _ _ _ eq45 ?_
      ·
        refine zr_pcn 100 rfl ?_
        refine zr_iinc (v := (q45.2.2.2.2.2.1 + 1)) F zd_XTexture_halve_100 rfl rfl (by decide) ?_
        refine zr_goto F 8 zd_XTexture_halve_103 (by decide) ?_
        refine zr_loc (L' := [(0, .ref (b + (q45.1))), (1, .int (q45.2.1)), (2, .int (q45.2.2.1)), (3, .int (q45.2.2.2.1)), (4, .int (q45.2.2.2.2.1)), (5, .int (q45.2.2.2.2.2.1 + 1))]) ⟨rfl, rfl, rfl, rfl, rfl, rfl, trivial⟩ ?_
        exact ih _ _ _ _ _ _ _ _ h hx0
def F_XTexture_halve (sh : zSh) (mm : zMem) (o : Nat) (x0_ : Int32) (x1_ : Int32) (x2_ : Int32) : Option zMem := zoL (x1_ / 2) (fun x1 => Option.bind (L_XTexture_halve_8 sh zfuel o x0_ x1_ x2_ x1 0 mm) (fun q46 => some (q46.2.2.2.2.2.2)))
set_option maxHeartbeats 4000000 in
set_option maxRecDepth 100000 in
theorem k_XTexture_halve (l : Launch) (D : va_G) (tA : Nat → ClassId) (b : Nat) (sh : zSh) (n : Nat) {mm : zMem} {o : Nat} {x0_ : Int32} {x1_ : Int32} {x2_ : Int32} {r : zMem} (h : F_XTexture_halve sh mm o x0_ x1_ x2_ = some r) : zM l D tA b zy_XTexture_halve zb_XTexture_halve 8 none 1 26 0 0 [.ref (b + o), .int x0_, .int x1_, .int x2_] (zW tA b sh mm) n (zE none (zW tA b sh r) n) := by
  unfold F_XTexture_halve at h
  refine zM_of (own := "OrreryBox$Texture") (plainFor_of_name (by decide)) rfl (Nat.le_of_ble_eq_true rfl) (fun p e s m below meth c F hr hin hH => ?_)
  refine zr_iload_n F zd_XTexture_halve_0 rfl ?_
  refine zr_iconstv (v := 2) F zd_XTexture_halve_1 (by decide) ?_
  refine zr_idiv F zd_XTexture_halve_2 (by decide) ?_
  obtain ⟨x1, ex1, h⟩ := zoL_s h
  rw [← ex1]
  refine zr_istore F zd_XTexture_halve_3 (by decide) ?_
  refine zr_iconstv (v := 0) F zd_XTexture_halve_5 (by decide) ?_
  refine zr_istore F zd_XTexture_halve_6 (by decide) ?_
  obtain ⟨q46, eq46, h⟩ := zoB_s h
  refine zr_loc (L' := [(0, .ref (b + o)), (1, .int x0_), (2, .int x1_), (3, .int x2_), (4, .int x1), (5, .int 0)]) ⟨rfl, rfl, rfl, rfl, rfl, rfl, trivial⟩ ?_
  refine lp_XTexture_halve_8 F _ _ _ _ _ _ _ _ _ eq46 ?_
  ·
    obtain rfl := Option.some.inj h
    exact zr_vret F hr zd_XTexture_halve_106 (Nat.le_of_ble_eq_true rfl) (Nat.le_of_ble_eq_true rfl) ⟨rfl, rfl, rfl⟩
abbrev zb_XTexture_texel : ByteArray := prog_11_method_8_code
def zy_XTexture_texel : MethodName := ⟨"OrreryBox$Texture", "texel", "(IIJJ)I"⟩
theorem zc_XTexture_texel : Cond.code zy_XTexture_texel zb_XTexture_texel 7 (some .int) ∈ gw := gw_t 851 (by decide +kernel) rfl
theorem zq_XTexture_texel : zy_XTexture_texel.cls ≠ "java/lang/invoke/MethodHandle" ∧ zy_XTexture_texel.cls ≠ "java/lang/invoke/VarHandle" ∧ (parseMethodDescriptor zy_XTexture_texel.desc).map (fun d => d.parameters.length) = some 4 := by decide +kernel
theorem zd_XTexture_texel_0 : decode zb_XTexture_texel 0 = .ok (.aload_n 0, 1) := by decide +kernel
theorem zd_XTexture_texel_1 : decode zb_XTexture_texel 1 = .ok (.getfield 7, 3) := by decide +kernel
theorem zd_XTexture_texel_4 : decode zb_XTexture_texel 4 = .ok (.iload_n 1, 1) := by decide +kernel
theorem zd_XTexture_texel_5 : decode zb_XTexture_texel 5 = .ok (.aload_n 0, 1) := by decide +kernel
theorem zd_XTexture_texel_6 : decode zb_XTexture_texel 6 = .ok (.lload 5, 2) := by decide +kernel
theorem zd_XTexture_texel_8 : decode zb_XTexture_texel 8 = .ok (.l2i, 1) := by decide +kernel
theorem zd_XTexture_texel_9 : decode zb_XTexture_texel 9 = .ok (.iload_n 2, 1) := by decide +kernel
theorem zd_XTexture_texel_10 : decode zb_XTexture_texel 10 = .ok (.invokevirtual 48, 3) := by decide +kernel
theorem zd_XTexture_texel_13 : decode zb_XTexture_texel 13 = .ok (.iload_n 2, 1) := by decide +kernel
theorem zd_XTexture_texel_14 : decode zb_XTexture_texel 14 = .ok (.imul, 1) := by decide +kernel
theorem zd_XTexture_texel_15 : decode zb_XTexture_texel 15 = .ok (.iadd, 1) := by decide +kernel
theorem zd_XTexture_texel_16 : decode zb_XTexture_texel 16 = .ok (.aload_n 0, 1) := by decide +kernel
theorem zd_XTexture_texel_17 : decode zb_XTexture_texel 17 = .ok (.lload_n 3, 1) := by decide +kernel
theorem zd_XTexture_texel_18 : decode zb_XTexture_texel 18 = .ok (.l2i, 1) := by decide +kernel
theorem zd_XTexture_texel_19 : decode zb_XTexture_texel 19 = .ok (.iload_n 2, 1) := by decide +kernel
theorem zd_XTexture_texel_20 : decode zb_XTexture_texel 20 = .ok (.invokevirtual 48, 3) := by decide +kernel
theorem zd_XTexture_texel_23 : decode zb_XTexture_texel 23 = .ok (.iadd, 1) := by decide +kernel
theorem zd_XTexture_texel_24 : decode zb_XTexture_texel 24 = .ok (.iaload, 1) := by decide +kernel
theorem zd_XTexture_texel_25 : decode zb_XTexture_texel 25 = .ok (.ireturn, 1) := by decide +kernel
theorem zw_852 : (Jvm.Cond.methodLink "OrreryBox$Texture" (48 : Nat) ({ cls := "OrreryBox$Texture", name := "wrapped", desc := "(II)I" } : Jvm.MethodName)) ∈ gw := gw_t 852 (by decide +kernel) rfl
theorem zw_854 : (Jvm.Cond.instanceMethod ({ cls := "OrreryBox$Texture", name := "wrapped", desc := "(II)I" } : Jvm.MethodName)) ∈ gw := gw_t 854 (by decide +kernel) rfl
theorem zv_23 : (Jvm.Cond.selects "OrreryBox$Texture" (⟨"OrreryBox$Texture", "wrapped", "(II)I"⟩ : MethodName) ⟨"OrreryBox$Texture", "wrapped", "(II)I"⟩) ∈ gw := gw_s 23 (by decide +kernel) rfl
theorem zs_XTexture_48 : zwV "OrreryBox$Texture" 48 "OrreryBox$Texture" zy_XTexture_wrapped zb_XTexture_wrapped 4 (some .int) := ⟨zw_852, zw_854, zv_23, zw_6, zc_XTexture_wrapped⟩
def F_XTexture_texel (sh : zSh) (mm : zMem) (o : Nat) (x0_ : Int32) (x1_ : Int32) (x2_ : Int64) (x3_ : Int64) : Option (Int32 × zMem) := zoS (sh o) 10 (fun le2 => Option.bind (mm.2.2 o 4) (fun a3 => zoS (sh o) 10 (fun le5 => Option.bind (F_XTexture_wrapped sh mm o ((x3_ : Int64).toInt32) x1_) (fun p6 => zoS (sh o) 10 (fun le8 => Option.bind (F_XTexture_wrapped sh (p6.2) o ((x2_ : Int64).toInt32) x1_) (fun p9 => zoL ((x0_ + (p6.1 * x1_)) + p9.1) (fun i10 => zoS (sh a3) 100 (fun le12 => if (i10 : Int32) < 0 ∨ le12 ≤ (i10 : Int32).toNatClampNeg then none else some (((p9.2).1 a3 (i10 : Int32).toNatClampNeg), p9.2)))))))))
set_option maxHeartbeats 4000000 in
set_option maxRecDepth 100000 in
theorem k_XTexture_texel (l : Launch) (D : va_G) (tA : Nat → ClassId) (b : Nat) (sh : zSh) (n : Nat) {mm : zMem} {o : Nat} {x0_ : Int32} {x1_ : Int32} {x2_ : Int64} {x3_ : Int64} {r : (Int32 × zMem)} (h : F_XTexture_texel sh mm o x0_ x1_ x2_ x3_ = some r) : zM l D tA b zy_XTexture_texel zb_XTexture_texel 7 (some .int) 1 23 0 0 [.ref (b + o), .int x0_, .int x1_, .long x2_, .long x3_] (zW tA b sh mm) n (zE (some (.int (r.1))) (zW tA b sh r.2) n) := by
  unfold F_XTexture_texel at h
  refine zM_of (own := "OrreryBox$Texture") (plainFor_of_name (by decide)) rfl (Nat.le_of_ble_eq_true rfl) (fun p e s m below meth c F hr hin hH => ?_)
  refine zr_aload_n F zd_XTexture_texel_0 rfl ?_
  obtain ⟨le2, hs1, h⟩ := zoS_s h
  obtain ⟨a3, ea3, h⟩ := zoB_s h
  refine zr_get F 10 4 zd_XTexture_texel_1 (zW_o hs1 (by decide)) rfl (by decide) zw_155 rfl (by rfl) ?_
  refine zr_tor ea3 ?_
  refine zr_iload_n F zd_XTexture_texel_4 rfl ?_
  refine zr_aload_n F zd_XTexture_texel_5 rfl ?_
  refine zr_lload F zd_XTexture_texel_6 rfl ?_
  refine zr_l2i F zd_XTexture_texel_8 ?_
  refine zr_iload_n F zd_XTexture_texel_9 rfl ?_
  refine zr_pcn 10 rfl ?_
  obtain ⟨le5, hs4, h⟩ := zoS_s h
  obtain ⟨p6, ep6, h⟩ := zoB_s h
  refine zr_callV1 F (k_XTexture_wrapped l D tA b sh _ ep6) zd_XTexture_texel_10 (zW_o hs4 (by decide)) rfl zs_XTexture_48 rfl zq_XTexture_wrapped rfl rfl ⟨(Nat.le_of_ble_eq_true rfl), (Nat.le_of_ble_eq_true rfl)⟩ (Nat.le_of_ble_eq_true rfl) ⟨(Nat.le_of_ble_eq_true rfl), (Nat.le_of_ble_eq_true rfl)⟩ ?_
  refine zr_iload_n F zd_XTexture_texel_13 rfl ?_
  refine zr_imul F zd_XTexture_texel_14 ?_
  refine zr_iadd F zd_XTexture_texel_15 ?_
  refine zr_aload_n F zd_XTexture_texel_16 rfl ?_
  refine zr_lload_n F zd_XTexture_texel_17 rfl ?_
  refine zr_l2i F zd_XTexture_texel_18 ?_
  refine zr_iload_n F zd_XTexture_texel_19 rfl ?_
  refine zr_pcn 20 rfl ?_
  obtain ⟨le8, hs7, h⟩ := zoS_s h
  obtain ⟨p9, ep9, h⟩ := zoB_s h
  refine zr_callV1 F (k_XTexture_wrapped l D tA b sh _ ep9) zd_XTexture_texel_20 (zW_o hs7 (by decide)) rfl zs_XTexture_48 rfl zq_XTexture_wrapped rfl rfl ⟨(Nat.le_of_ble_eq_true rfl), (Nat.le_of_ble_eq_true rfl)⟩ (Nat.le_of_ble_eq_true rfl) ⟨(Nat.le_of_ble_eq_true rfl), (Nat.le_of_ble_eq_true rfl)⟩ ?_
  refine zr_iadd F zd_XTexture_texel_23 ?_
  obtain ⟨i10, ei10, h⟩ := zoL_s h
  rw [← ei10]
  obtain ⟨le12, hs11, h⟩ := zoS_s h
  obtain ⟨hi13, h⟩ := zoI_s h
  refine zr_iald F zd_XTexture_texel_24 (zW_a0 hs11) hi13 ?_
  obtain rfl := Option.some.inj h
  exact zr_iret F hr zd_XTexture_texel_25 (Nat.le_of_ble_eq_true rfl) (Nat.le_of_ble_eq_true rfl) ⟨rfl, rfl, rfl⟩
abbrev zb_XTrack_apply : ByteArray := prog_12_method_2_code
def zy_XTrack_apply : MethodName := ⟨"OrreryBox$Track", "apply", "(I[I)V"⟩
theorem zc_XTrack_apply : Cond.code zy_XTrack_apply zb_XTrack_apply 5 none ∈ gw := gw_t 560 (by decide +kernel) rfl
theorem zq_XTrack_apply : zy_XTrack_apply.cls ≠ "java/lang/invoke/MethodHandle" ∧ zy_XTrack_apply.cls ≠ "java/lang/invoke/VarHandle" ∧ (parseMethodDescriptor zy_XTrack_apply.desc).map (fun d => d.parameters.length) = some 2 := by decide +kernel
theorem zd_XTrack_apply_0 : decode zb_XTrack_apply 0 = .ok (.aload_n 0, 1) := by decide +kernel
theorem zd_XTrack_apply_1 : decode zb_XTrack_apply 1 = .ok (.iload_n 1, 1) := by decide +kernel
theorem zd_XTrack_apply_2 : decode zb_XTrack_apply 2 = .ok (.invokevirtual 18, 3) := by decide +kernel
theorem zd_XTrack_apply_5 : decode zb_XTrack_apply 5 = .ok (.istore_n 3, 1) := by decide +kernel
theorem zd_XTrack_apply_6 : decode zb_XTrack_apply 6 = .ok (.iconst 0, 1) := by decide +kernel
theorem zd_XTrack_apply_7 : decode zb_XTrack_apply 7 = .ok (.istore 4, 2) := by decide +kernel
theorem zd_XTrack_apply_9 : decode zb_XTrack_apply 9 = .ok (.iload 4, 2) := by decide +kernel
theorem zd_XTrack_apply_11 : decode zb_XTrack_apply 11 = .ok (.iconst 3, 1) := by decide +kernel
theorem zd_XTrack_apply_12 : decode zb_XTrack_apply 12 = .ok (.if_icmp .ge 28, 3) := by decide +kernel
theorem zd_XTrack_apply_15 : decode zb_XTrack_apply 15 = .ok (.aload_n 2, 1) := by decide +kernel
theorem zd_XTrack_apply_16 : decode zb_XTrack_apply 16 = .ok (.iconst 3, 1) := by decide +kernel
theorem zd_XTrack_apply_17 : decode zb_XTrack_apply 17 = .ok (.aload_n 0, 1) := by decide +kernel
theorem zd_XTrack_apply_18 : decode zb_XTrack_apply 18 = .ok (.getfield 22, 3) := by decide +kernel
theorem zd_XTrack_apply_21 : decode zb_XTrack_apply 21 = .ok (.imul, 1) := by decide +kernel
theorem zd_XTrack_apply_22 : decode zb_XTrack_apply 22 = .ok (.iload 4, 2) := by decide +kernel
theorem zd_XTrack_apply_24 : decode zb_XTrack_apply 24 = .ok (.iadd, 1) := by decide +kernel
theorem zd_XTrack_apply_25 : decode zb_XTrack_apply 25 = .ok (.aload_n 0, 1) := by decide +kernel
theorem zd_XTrack_apply_26 : decode zb_XTrack_apply 26 = .ok (.iload_n 1, 1) := by decide +kernel
theorem zd_XTrack_apply_27 : decode zb_XTrack_apply 27 = .ok (.iload_n 3, 1) := by decide +kernel
theorem zd_XTrack_apply_28 : decode zb_XTrack_apply 28 = .ok (.iload 4, 2) := by decide +kernel
theorem zd_XTrack_apply_30 : decode zb_XTrack_apply 30 = .ok (.invokevirtual 26, 3) := by decide +kernel
theorem zd_XTrack_apply_33 : decode zb_XTrack_apply 33 = .ok (.iastore, 1) := by decide +kernel
theorem zd_XTrack_apply_34 : decode zb_XTrack_apply 34 = .ok (.iinc 4 1, 3) := by decide +kernel
theorem zd_XTrack_apply_37 : decode zb_XTrack_apply 37 = .ok (.goto (-28), 3) := by decide +kernel
theorem zd_XTrack_apply_40 : decode zb_XTrack_apply 40 = .ok (.return_, 1) := by decide +kernel
theorem zw_561 : (Jvm.Cond.methodLink "OrreryBox$Track" (18 : Nat) ({ cls := "OrreryBox$Track", name := "keyAt", desc := "(I)I" } : Jvm.MethodName)) ∈ gw := gw_t 561 (by decide +kernel) rfl
theorem zw_563 : (Jvm.Cond.instanceMethod ({ cls := "OrreryBox$Track", name := "keyAt", desc := "(I)I" } : Jvm.MethodName)) ∈ gw := gw_t 563 (by decide +kernel) rfl
theorem zv_2 : (Jvm.Cond.selects "OrreryBox$Track" (⟨"OrreryBox$Track", "keyAt", "(I)I"⟩ : MethodName) ⟨"OrreryBox$Track", "keyAt", "(I)I"⟩) ∈ gw := gw_s 2 (by decide +kernel) rfl
theorem zs_XTrack_18 : zwV "OrreryBox$Track" 18 "OrreryBox$Track" zy_XTrack_keyAt zb_XTrack_keyAt 4 (some .int) := ⟨zw_561, zw_563, zv_2, zw_9, zc_XTrack_keyAt⟩
theorem zw_253 : (Jvm.Cond.fieldLink "OrreryBox$Track" (22 : Nat) "OrreryBox$Track" "what" "I") ∈ gw := gw_t 253 (by decide +kernel) rfl
theorem zw_565 : (Jvm.Cond.methodLink "OrreryBox$Track" (26 : Nat) ({ cls := "OrreryBox$Track", name := "valueAt", desc := "(III)I" } : Jvm.MethodName)) ∈ gw := gw_t 565 (by decide +kernel) rfl
theorem zw_567 : (Jvm.Cond.instanceMethod ({ cls := "OrreryBox$Track", name := "valueAt", desc := "(III)I" } : Jvm.MethodName)) ∈ gw := gw_t 567 (by decide +kernel) rfl
theorem zv_3 : (Jvm.Cond.selects "OrreryBox$Track" (⟨"OrreryBox$Track", "valueAt", "(III)I"⟩ : MethodName) ⟨"OrreryBox$Track", "valueAt", "(III)I"⟩) ∈ gw := gw_s 3 (by decide +kernel) rfl
theorem zs_XTrack_26 : zwV "OrreryBox$Track" 26 "OrreryBox$Track" zy_XTrack_valueAt zb_XTrack_valueAt 15 (some .int) := ⟨zw_565, zw_567, zv_3, zw_9, zc_XTrack_valueAt⟩
def L_XTrack_apply_9 (sh : zSh) (fuel : Nat) (v0 : Nat) (v1 : Int32) (v2 : Nat) (v3 : Int32) (v4 : Int32) (mm : zMem) : Option (Nat × Int32 × Nat × Int32 × Int32 × zMem) := match fuel with
  | 0 => none
  | fu + 1 => (if 3 ≤ v4 then some (v0, v1, v2, v3, v4, mm) else zoS (sh v0) 11 (fun le6 => zoS (sh v0) 11 (fun le8 => Option.bind (F_XTrack_valueAt sh mm v0 v1 v3 v4) (fun p9 => zoL ((3 * (mm.1 v0 1)) + v4) (fun i10 => zoS (sh v2) 100 (fun le12 => if (i10 : Int32) < 0 ∨ le12 ≤ (i10 : Int32).toNatClampNeg then none else zoL (mI (p9.2) v2 (i10 : Int32).toNatClampNeg (p9.1)) (fun mm14 => L_XTrack_apply_9 sh fu v0 v1 v2 v3 (v4 + 1) mm14)))))))
set_option maxHeartbeats 4000000 in
set_option maxRecDepth 100000 in
theorem lp_XTrack_apply_9 {p : Program} {l : Launch} {e : Env} {s : State} {m : MethodId} {args : Array Value} {below : List Frame} {meth : Method} {c : Code} {D : va_G} {tA : Nat → ClassId} {b n : Nat} {post : Option Value → zV → Nat → Prop} {sh : zSh} (F : zF p s m args meth c zb_XTrack_apply 5 "OrreryBox$Track" D tA b) : ∀ (fuel : Nat) (v0 : Nat) (v1 : Int32) (v2 : Nat) (v3 : Int32) (v4 : Int32) (mm : zMem) (r : Nat × Int32 × Nat × Int32 × Int32 × zMem), L_XTrack_apply_9 sh fuel v0 v1 v2 v3 v4 mm = some r → (Z p l e { frames := 3, cells := 0, slots := 0, locals := 82 } s m args below meth c D b 5 (MQ below (zQ D b post) args s 0 0 (fun q => b ≤ q)) (zW tA b sh r.2.2.2.2.2) n 0 0 40 [(0, .ref (b + (r.1))), (1, .int (r.2.1)), (2, .ref (b + (r.2.2.1))), (3, .int (r.2.2.2.1)), (4, .int (r.2.2.2.2.1))] []) → Z p l e { frames := 3, cells := 0, slots := 0, locals := 82 } s m args below meth c D b 5 (MQ below (zQ D b post) args s 0 0 (fun q => b ≤ q)) (zW tA b sh mm) n 0 0 9 [(0, .ref (b + v0)), (1, .int v1), (2, .ref (b + v2)), (3, .int v3), (4, .int v4)] [] := by
  intro fuel
  induction fuel with
  | zero =>
    intro v0 v1 v2 v3 v4 mm r h
    cases h
  | succ fu ih =>
    intro v0 v1 v2 v3 v4 mm r h hx0
    rw [L_XTrack_apply_9] at h
    refine zr_iload F zd_XTrack_apply_9 rfl ?_
    refine zr_pcn 11 rfl ?_
    refine zr_iconstv (v := 3) F zd_XTrack_apply_11 (by decide) ?_
    refine zr_icmp_ge F 40 zd_XTrack_apply_12 (by decide) (fun hb4 => ?_) (fun hb4 => ?_)
    ·
      rw [if_pos hb4] at h
      obtain rfl := Option.some.inj h
      refine zr_loc (L' := [(0, .ref (b + v0)), (1, .int v1), (2, .ref (b + v2)), (3, .int v3), (4, .int v4)]) ⟨rfl, rfl, rfl, rfl, rfl, trivial⟩ ?_
      exact hx0 
    ·
      rw [if_neg hb4] at h
      refine zr_aload_n F zd_XTrack_apply_15 rfl ?_
      refine zr_iconstv (v := 3) F zd_XTrack_apply_16 (by decide) ?_
      refine zr_aload_n F zd_XTrack_apply_17 rfl ?_
      obtain ⟨le6, hs5, h⟩ := zoS_s h
      refine zr_get F 11 1 zd_XTrack_apply_18 (zW_o hs5 (by decide)) rfl (by decide) zw_253 rfl (by rfl) ?_
      refine zr_imul F zd_XTrack_apply_21 ?_
      refine zr_iload F zd_XTrack_apply_22 rfl ?_
      refine zr_pcn 24 rfl ?_
      refine zr_iadd F zd_XTrack_apply_24 ?_
      refine zr_aload_n F zd_XTrack_apply_25 rfl ?_
      refine zr_iload_n F zd_XTrack_apply_26 rfl ?_
      refine zr_iload_n F zd_XTrack_apply_27 rfl ?_
      refine zr_iload F zd_XTrack_apply_28 rfl ?_
      obtain ⟨le8, hs7, h⟩ := zoS_s h
      obtain ⟨p9, ep9, h⟩ := zoB_s h
      refine zr_callV1 F (k_XTrack_valueAt l D tA b sh _ ep9) zd_XTrack_apply_30 (zW_o hs7 (by decide)) rfl zs_XTrack_26 rfl zq_XTrack_valueAt rfl rfl ⟨(Nat.le_of_ble_eq_true rfl), (Nat.le_of_ble_eq_true rfl)⟩ (Nat.le_of_ble_eq_true rfl) ⟨(Nat.le_of_ble_eq_true rfl), (Nat.le_of_ble_eq_true rfl)⟩ ?_
      obtain ⟨i10, ei10, h⟩ := zoL_s h
      rw [← ei10]
      obtain ⟨le12, hs11, h⟩ := zoS_s h
      obtain ⟨hi13, h⟩ := zoI_s h
      refine zr_iast F zd_XTrack_apply_33 (zW_a0 hs11) hi13 ?_
      obtain ⟨mm14, emm14, h⟩ := zoL_s h
      refine zr_norm (zW tA b sh mm14) _ (by rw [emm14]; exact zW_s0 hs11) rfl ?_
      refine zr_iinc (v := (v4 + 1)) F zd_XTrack_apply_34 rfl rfl (by decide) ?_
      refine zr_pcn 37 rfl ?_
      refine zr_goto F 9 zd_XTrack_apply_37 (by decide) ?_
      refine zr_loc (L' := [(0, .ref (b + v0)), (1, .int v1), (2, .ref (b + v2)), (3, .int v3), (4, .int (v4 + 1))]) ⟨rfl, rfl, rfl, rfl, rfl, trivial⟩ ?_
      exact ih _ _ _ _ _ _ _ h hx0
def F_XTrack_apply (sh : zSh) (mm : zMem) (o : Nat) (x0_ : Int32) (x1_ : Nat) : Option zMem := zoS (sh o) 11 (fun le2 => Option.bind (F_XTrack_keyAt sh mm o x0_) (fun p3 => Option.bind (L_XTrack_apply_9 sh zfuel o x0_ x1_ (p3.1) 0 (p3.2)) (fun q15 => some (q15.2.2.2.2.2))))
set_option maxHeartbeats 4000000 in
set_option maxRecDepth 100000 in
theorem k_XTrack_apply (l : Launch) (D : va_G) (tA : Nat → ClassId) (b : Nat) (sh : zSh) (n : Nat) {mm : zMem} {o : Nat} {x0_ : Int32} {x1_ : Nat} {r : zMem} (h : F_XTrack_apply sh mm o x0_ x1_ = some r) : zM l D tA b zy_XTrack_apply zb_XTrack_apply 5 none 3 82 0 0 [.ref (b + o), .int x0_, .ref (b + x1_)] (zW tA b sh mm) n (zE none (zW tA b sh r) n) := by
  unfold F_XTrack_apply at h
  refine zM_of (own := "OrreryBox$Track") (plainFor_of_name (by decide)) rfl (Nat.le_of_ble_eq_true rfl) (fun p e s m below meth c F hr hin hH => ?_)
  refine zr_aload_n F zd_XTrack_apply_0 rfl ?_
  refine zr_iload_n F zd_XTrack_apply_1 rfl ?_
  obtain ⟨le2, hs1, h⟩ := zoS_s h
  obtain ⟨p3, ep3, h⟩ := zoB_s h
  refine zr_callV1 F (k_XTrack_keyAt l D tA b sh _ ep3) zd_XTrack_apply_2 (zW_o hs1 (by decide)) rfl zs_XTrack_18 rfl zq_XTrack_keyAt rfl rfl ⟨(Nat.le_of_ble_eq_true rfl), (Nat.le_of_ble_eq_true rfl)⟩ (Nat.le_of_ble_eq_true rfl) ⟨(Nat.le_of_ble_eq_true rfl), (Nat.le_of_ble_eq_true rfl)⟩ ?_
  refine zr_istore_n F zd_XTrack_apply_5 (by decide) ?_
  refine zr_iconstv (v := 0) F zd_XTrack_apply_6 (by decide) ?_
  refine zr_istore F zd_XTrack_apply_7 (by decide) ?_
  obtain ⟨q15, eq15, h⟩ := zoB_s h
  refine zr_loc (L' := [(0, .ref (b + o)), (1, .int x0_), (2, .ref (b + x1_)), (3, .int (p3.1)), (4, .int 0)]) ⟨rfl, rfl, rfl, rfl, rfl, trivial⟩ ?_
  refine lp_XTrack_apply_9 F _ _ _ _ _ _ _ _ eq15 ?_
  ·
    obtain rfl := Option.some.inj h
    exact zr_vret F hr zd_XTrack_apply_40 (Nat.le_of_ble_eq_true rfl) (Nat.le_of_ble_eq_true rfl) ⟨rfl, rfl, rfl⟩
abbrev zb_MPacker_write : ByteArray := prog_15_method_7_code
def zy_MPacker_write : MethodName := ⟨"OrreryBoxModel$Packer", "write", "(II[I)I"⟩
theorem zc_MPacker_write : Cond.code zy_MPacker_write zb_MPacker_write 6 (some .int) ∈ gw := gw_t 2189 (by decide +kernel) rfl
theorem zq_MPacker_write : zy_MPacker_write.cls ≠ "java/lang/invoke/MethodHandle" ∧ zy_MPacker_write.cls ≠ "java/lang/invoke/VarHandle" ∧ (parseMethodDescriptor zy_MPacker_write.desc).map (fun d => d.parameters.length) = some 3 := by decide +kernel
theorem zd_MPacker_write_0 : decode zb_MPacker_write 0 = .ok (.aload_n 0, 1) := by decide +kernel
theorem zd_MPacker_write_1 : decode zb_MPacker_write 1 = .ok (.iload_n 1, 1) := by decide +kernel
theorem zd_MPacker_write_2 : decode zb_MPacker_write 2 = .ok (.putfield 33, 3) := by decide +kernel
theorem zd_MPacker_write_5 : decode zb_MPacker_write 5 = .ok (.aload_n 0, 1) := by decide +kernel
theorem zd_MPacker_write_6 : decode zb_MPacker_write 6 = .ok (.aload_n 3, 1) := by decide +kernel
theorem zd_MPacker_write_7 : decode zb_MPacker_write 7 = .ok (.putfield 36, 3) := by decide +kernel
theorem zd_MPacker_write_10 : decode zb_MPacker_write 10 = .ok (.aload_n 0, 1) := by decide +kernel
theorem zd_MPacker_write_11 : decode zb_MPacker_write 11 = .ok (.iconst 0, 1) := by decide +kernel
theorem zd_MPacker_write_12 : decode zb_MPacker_write 12 = .ok (.putfield 17, 3) := by decide +kernel
theorem zd_MPacker_write_15 : decode zb_MPacker_write 15 = .ok (.aload_n 0, 1) := by decide +kernel
theorem zd_MPacker_write_16 : decode zb_MPacker_write 16 = .ok (.ldc 39, 2) := by decide +kernel
theorem zd_MPacker_write_18 : decode zb_MPacker_write 18 = .ok (.invokevirtual 26, 3) := by decide +kernel
theorem zd_MPacker_write_21 : decode zb_MPacker_write 21 = .ok (.aload_n 0, 1) := by decide +kernel
theorem zd_MPacker_write_22 : decode zb_MPacker_write 22 = .ok (.ldc 40, 2) := by decide +kernel
theorem zd_MPacker_write_24 : decode zb_MPacker_write 24 = .ok (.invokevirtual 26, 3) := by decide +kernel
theorem zd_MPacker_write_27 : decode zb_MPacker_write 27 = .ok (.aload_n 0, 1) := by decide +kernel
theorem zd_MPacker_write_28 : decode zb_MPacker_write 28 = .ok (.bipush 73, 2) := by decide +kernel
theorem zd_MPacker_write_30 : decode zb_MPacker_write 30 = .ok (.bipush 72, 2) := by decide +kernel
theorem zd_MPacker_write_32 : decode zb_MPacker_write 32 = .ok (.bipush 68, 2) := by decide +kernel
theorem zd_MPacker_write_34 : decode zb_MPacker_write 34 = .ok (.bipush 82, 2) := by decide +kernel
theorem zd_MPacker_write_36 : decode zb_MPacker_write 36 = .ok (.invokevirtual 41, 3) := by decide +kernel
theorem zd_MPacker_write_39 : decode zb_MPacker_write 39 = .ok (.istore 4, 2) := by decide +kernel
theorem zd_MPacker_write_41 : decode zb_MPacker_write 41 = .ok (.aload_n 0, 1) := by decide +kernel
theorem zd_MPacker_write_42 : decode zb_MPacker_write 42 = .ok (.iload_n 1, 1) := by decide +kernel
theorem zd_MPacker_write_43 : decode zb_MPacker_write 43 = .ok (.invokevirtual 26, 3) := by decide +kernel
theorem zd_MPacker_write_46 : decode zb_MPacker_write 46 = .ok (.aload_n 0, 1) := by decide +kernel
theorem zd_MPacker_write_47 : decode zb_MPacker_write 47 = .ok (.iload_n 2, 1) := by decide +kernel
theorem zd_MPacker_write_48 : decode zb_MPacker_write 48 = .ok (.invokevirtual 26, 3) := by decide +kernel
theorem zd_MPacker_write_51 : decode zb_MPacker_write 51 = .ok (.aload_n 0, 1) := by decide +kernel
theorem zd_MPacker_write_52 : decode zb_MPacker_write 52 = .ok (.bipush 8, 2) := by decide +kernel
theorem zd_MPacker_write_54 : decode zb_MPacker_write 54 = .ok (.invokevirtual 21, 3) := by decide +kernel
theorem zd_MPacker_write_57 : decode zb_MPacker_write 57 = .ok (.aload_n 0, 1) := by decide +kernel
theorem zd_MPacker_write_58 : decode zb_MPacker_write 58 = .ok (.iconst 2, 1) := by decide +kernel
theorem zd_MPacker_write_59 : decode zb_MPacker_write 59 = .ok (.invokevirtual 21, 3) := by decide +kernel
theorem zd_MPacker_write_62 : decode zb_MPacker_write 62 = .ok (.aload_n 0, 1) := by decide +kernel
theorem zd_MPacker_write_63 : decode zb_MPacker_write 63 = .ok (.iconst 0, 1) := by decide +kernel
theorem zd_MPacker_write_64 : decode zb_MPacker_write 64 = .ok (.invokevirtual 21, 3) := by decide +kernel
theorem zd_MPacker_write_67 : decode zb_MPacker_write 67 = .ok (.aload_n 0, 1) := by decide +kernel
theorem zd_MPacker_write_68 : decode zb_MPacker_write 68 = .ok (.iconst 0, 1) := by decide +kernel
theorem zd_MPacker_write_69 : decode zb_MPacker_write 69 = .ok (.invokevirtual 21, 3) := by decide +kernel
theorem zd_MPacker_write_72 : decode zb_MPacker_write 72 = .ok (.aload_n 0, 1) := by decide +kernel
theorem zd_MPacker_write_73 : decode zb_MPacker_write 73 = .ok (.iconst 0, 1) := by decide +kernel
theorem zd_MPacker_write_74 : decode zb_MPacker_write 74 = .ok (.invokevirtual 21, 3) := by decide +kernel
theorem zd_MPacker_write_77 : decode zb_MPacker_write 77 = .ok (.aload_n 0, 1) := by decide +kernel
theorem zd_MPacker_write_78 : decode zb_MPacker_write 78 = .ok (.iload 4, 2) := by decide +kernel
theorem zd_MPacker_write_80 : decode zb_MPacker_write 80 = .ok (.invokevirtual 45, 3) := by decide +kernel
theorem zd_MPacker_write_83 : decode zb_MPacker_write 83 = .ok (.aload_n 0, 1) := by decide +kernel
theorem zd_MPacker_write_84 : decode zb_MPacker_write 84 = .ok (.iconst 0, 1) := by decide +kernel
theorem zd_MPacker_write_85 : decode zb_MPacker_write 85 = .ok (.putfield 48, 3) := by decide +kernel
theorem zd_MPacker_write_88 : decode zb_MPacker_write 88 = .ok (.iconst 0, 1) := by decide +kernel
theorem zd_MPacker_write_89 : decode zb_MPacker_write 89 = .ok (.istore 5, 2) := by decide +kernel
theorem zd_MPacker_write_91 : decode zb_MPacker_write 91 = .ok (.iload 5, 2) := by decide +kernel
theorem zd_MPacker_write_93 : decode zb_MPacker_write 93 = .ok (.iload_n 2, 1) := by decide +kernel
theorem zd_MPacker_write_94 : decode zb_MPacker_write 94 = .ok (.if_icmp .ge 15, 3) := by decide +kernel
theorem zd_MPacker_write_97 : decode zb_MPacker_write 97 = .ok (.aload_n 0, 1) := by decide +kernel
theorem zd_MPacker_write_98 : decode zb_MPacker_write 98 = .ok (.iload 5, 2) := by decide +kernel
theorem zd_MPacker_write_100 : decode zb_MPacker_write 100 = .ok (.invokevirtual 51, 3) := by decide +kernel
theorem zd_MPacker_write_103 : decode zb_MPacker_write 103 = .ok (.iinc 5 1, 3) := by decide +kernel
theorem zd_MPacker_write_106 : decode zb_MPacker_write 106 = .ok (.goto (-15), 3) := by decide +kernel
theorem zd_MPacker_write_109 : decode zb_MPacker_write 109 = .ok (.aload_n 0, 1) := by decide +kernel
theorem zd_MPacker_write_110 : decode zb_MPacker_write 110 = .ok (.bipush 73, 2) := by decide +kernel
theorem zd_MPacker_write_112 : decode zb_MPacker_write 112 = .ok (.bipush 68, 2) := by decide +kernel
theorem zd_MPacker_write_114 : decode zb_MPacker_write 114 = .ok (.bipush 65, 2) := by decide +kernel
theorem zd_MPacker_write_116 : decode zb_MPacker_write 116 = .ok (.bipush 84, 2) := by decide +kernel
theorem zd_MPacker_write_118 : decode zb_MPacker_write 118 = .ok (.invokevirtual 41, 3) := by decide +kernel
theorem zd_MPacker_write_121 : decode zb_MPacker_write 121 = .ok (.istore 4, 2) := by decide +kernel
theorem zd_MPacker_write_123 : decode zb_MPacker_write 123 = .ok (.aload_n 0, 1) := by decide +kernel
theorem zd_MPacker_write_124 : decode zb_MPacker_write 124 = .ok (.bipush 120, 2) := by decide +kernel
theorem zd_MPacker_write_126 : decode zb_MPacker_write 126 = .ok (.invokevirtual 21, 3) := by decide +kernel
theorem zd_MPacker_write_129 : decode zb_MPacker_write 129 = .ok (.aload_n 0, 1) := by decide +kernel
theorem zd_MPacker_write_130 : decode zb_MPacker_write 130 = .ok (.iconst 1, 1) := by decide +kernel
theorem zd_MPacker_write_131 : decode zb_MPacker_write 131 = .ok (.invokevirtual 21, 3) := by decide +kernel
theorem zd_MPacker_write_134 : decode zb_MPacker_write 134 = .ok (.aload_n 0, 1) := by decide +kernel
theorem zd_MPacker_write_135 : decode zb_MPacker_write 135 = .ok (.invokevirtual 54, 3) := by decide +kernel
theorem zd_MPacker_write_138 : decode zb_MPacker_write 138 = .ok (.aload_n 0, 1) := by decide +kernel
theorem zd_MPacker_write_139 : decode zb_MPacker_write 139 = .ok (.aload_n 0, 1) := by decide +kernel
theorem zd_MPacker_write_140 : decode zb_MPacker_write 140 = .ok (.invokevirtual 57, 3) := by decide +kernel
theorem zd_MPacker_write_143 : decode zb_MPacker_write 143 = .ok (.invokevirtual 26, 3) := by decide +kernel
theorem zd_MPacker_write_146 : decode zb_MPacker_write 146 = .ok (.aload_n 0, 1) := by decide +kernel
theorem zd_MPacker_write_147 : decode zb_MPacker_write 147 = .ok (.iload 4, 2) := by decide +kernel
theorem zd_MPacker_write_149 : decode zb_MPacker_write 149 = .ok (.invokevirtual 45, 3) := by decide +kernel
theorem zd_MPacker_write_152 : decode zb_MPacker_write 152 = .ok (.aload_n 0, 1) := by decide +kernel
theorem zd_MPacker_write_153 : decode zb_MPacker_write 153 = .ok (.aload_n 0, 1) := by decide +kernel
theorem zd_MPacker_write_154 : decode zb_MPacker_write 154 = .ok (.bipush 73, 2) := by decide +kernel
theorem zd_MPacker_write_156 : decode zb_MPacker_write 156 = .ok (.bipush 69, 2) := by decide +kernel
theorem zd_MPacker_write_158 : decode zb_MPacker_write 158 = .ok (.bipush 78, 2) := by decide +kernel
theorem zd_MPacker_write_160 : decode zb_MPacker_write 160 = .ok (.bipush 68, 2) := by decide +kernel
theorem zd_MPacker_write_162 : decode zb_MPacker_write 162 = .ok (.invokevirtual 41, 3) := by decide +kernel
theorem zd_MPacker_write_165 : decode zb_MPacker_write 165 = .ok (.invokevirtual 45, 3) := by decide +kernel
theorem zd_MPacker_write_168 : decode zb_MPacker_write 168 = .ok (.aload_n 0, 1) := by decide +kernel
theorem zd_MPacker_write_169 : decode zb_MPacker_write 169 = .ok (.getfield 17, 3) := by decide +kernel
theorem zd_MPacker_write_172 : decode zb_MPacker_write 172 = .ok (.ireturn, 1) := by decide +kernel
theorem zf_I_12_5 (b : Nat) (m : zMem) (k : Nat) (v : Int32) : (zfl b 12 m k).set 5 (.int v) = zfl b 12 (mI m k 5 v) k := by simp [zfl, mI, upd, vp_updL]
theorem zf_R_12_6 (b : Nat) (m : zMem) (k : Nat) (v : Option Nat) : (zfl b 12 m k).set 6 (zrf b v) = zfl b 12 (mR m k 6 v) k := by simp [zfl, mR, upd, vp_updL]
theorem zw_2190 : (Jvm.Cond.constant "OrreryBoxModel$Packer" (39 : Nat) (-1991225785 : Int32)) ∈ gw := gw_t 2190 (by decide +kernel) rfl
theorem zw_2199 : (Jvm.Cond.constant "OrreryBoxModel$Packer" (40 : Nat) (218765834 : Int32)) ∈ gw := gw_t 2199 (by decide +kernel) rfl
theorem zw_2200 : (Jvm.Cond.methodLink "OrreryBoxModel$Packer" (41 : Nat) ({ cls := "OrreryBoxModel$Packer", name := "begin", desc := "(IIII)I" } : Jvm.MethodName)) ∈ gw := gw_t 2200 (by decide +kernel) rfl
theorem zw_2202 : (Jvm.Cond.instanceMethod ({ cls := "OrreryBoxModel$Packer", name := "begin", desc := "(IIII)I" } : Jvm.MethodName)) ∈ gw := gw_t 2202 (by decide +kernel) rfl
theorem zv_120 : (Jvm.Cond.selects "OrreryBoxModel$Packer" (⟨"OrreryBoxModel$Packer", "begin", "(IIII)I"⟩ : MethodName) ⟨"OrreryBoxModel$Packer", "begin", "(IIII)I"⟩) ∈ gw := gw_s 120 (by decide +kernel) rfl
theorem zs_MPacker_41 : zwV "OrreryBoxModel$Packer" 41 "OrreryBoxModel$Packer" zy_MPacker_begin zb_MPacker_begin 6 (some .int) := ⟨zw_2200, zw_2202, zv_120, zw_16, zc_MPacker_begin⟩
theorem zw_2204 : (Jvm.Cond.methodLink "OrreryBoxModel$Packer" (45 : Nat) ({ cls := "OrreryBoxModel$Packer", name := "finish", desc := "(I)V" } : Jvm.MethodName)) ∈ gw := gw_t 2204 (by decide +kernel) rfl
theorem zw_2206 : (Jvm.Cond.instanceMethod ({ cls := "OrreryBoxModel$Packer", name := "finish", desc := "(I)V" } : Jvm.MethodName)) ∈ gw := gw_t 2206 (by decide +kernel) rfl
theorem zv_121 : (Jvm.Cond.selects "OrreryBoxModel$Packer" (⟨"OrreryBoxModel$Packer", "finish", "(I)V"⟩ : MethodName) ⟨"OrreryBoxModel$Packer", "finish", "(I)V"⟩) ∈ gw := gw_s 121 (by decide +kernel) rfl
theorem zs_MPacker_45 : zwV "OrreryBoxModel$Packer" 45 "OrreryBoxModel$Packer" zy_MPacker_finish zb_MPacker_finish 4 none := ⟨zw_2204, zw_2206, zv_121, zw_16, zc_MPacker_finish⟩
theorem zw_2213 : (Jvm.Cond.methodLink "OrreryBoxModel$Packer" (51 : Nat) ({ cls := "OrreryBoxModel$Packer", name := "row", desc := "(I)V" } : Jvm.MethodName)) ∈ gw := gw_t 2213 (by decide +kernel) rfl
theorem zw_2215 : (Jvm.Cond.instanceMethod ({ cls := "OrreryBoxModel$Packer", name := "row", desc := "(I)V" } : Jvm.MethodName)) ∈ gw := gw_t 2215 (by decide +kernel) rfl
theorem zv_123 : (Jvm.Cond.selects "OrreryBoxModel$Packer" (⟨"OrreryBoxModel$Packer", "row", "(I)V"⟩ : MethodName) ⟨"OrreryBoxModel$Packer", "row", "(I)V"⟩) ∈ gw := gw_s 123 (by decide +kernel) rfl
theorem zs_MPacker_51 : zwV "OrreryBoxModel$Packer" 51 "OrreryBoxModel$Packer" zy_MPacker_row zb_MPacker_row 7 none := ⟨zw_2213, zw_2215, zv_123, zw_16, zc_MPacker_row⟩
def L_MPacker_write_91 (sh : zSh) (fuel : Nat) (v0 : Nat) (v2 : Int32) (v5 : Int32) (mm : zMem) : Option (Nat × Int32 × Int32 × zMem) := match fuel with
  | 0 => none
  | fu + 1 => (if v2 ≤ v5 then some (v0, v2, v5, mm) else zoS (sh v0) 12 (fun le48 => Option.bind (F_MPacker_row sh mm v0 v5) (fun p49 => L_MPacker_write_91 sh fu v0 v2 (v5 + 1) p49)))
set_option maxHeartbeats 4000000 in
set_option maxRecDepth 100000 in
theorem lp_MPacker_write_91 {p : Program} {l : Launch} {e : Env} {s : State} {m : MethodId} {args : Array Value} {below : List Frame} {meth : Method} {c : Code} {D : va_G} {tA : Nat → ClassId} {b n : Nat} {post : Option Value → zV → Nat → Prop} {sh : zSh} (F : zF p s m args meth c zb_MPacker_write 6 "OrreryBoxModel$Packer" D tA b) : ∀ (fuel : Nat) (v0 : Nat) (v2 : Int32) (v5 : Int32) (mm : zMem) (r : Nat × Int32 × Int32 × zMem), L_MPacker_write_91 sh fuel v0 v2 v5 mm = some r → (Z p l e { frames := 5, cells := 0, slots := 0, locals := 117 } s m args below meth c D b 6 (MQ below (zQ D b post) args s 0 0 (fun q => b ≤ q)) (zW tA b sh r.2.2.2) n 0 0 109 [(0, .ref (b + (r.1))), (2, .int (r.2.1)), (5, .int (r.2.2.1))] []) → Z p l e { frames := 5, cells := 0, slots := 0, locals := 117 } s m args below meth c D b 6 (MQ below (zQ D b post) args s 0 0 (fun q => b ≤ q)) (zW tA b sh mm) n 0 0 91 [(0, .ref (b + v0)), (2, .int v2), (5, .int v5)] [] := by
  intro fuel
  induction fuel with
  | zero =>
    intro v0 v2 v5 mm r h
    cases h
  | succ fu ih =>
    intro v0 v2 v5 mm r h hx0
    rw [L_MPacker_write_91] at h
    refine zr_iload F zd_MPacker_write_91 rfl ?_
    refine zr_iload_n F zd_MPacker_write_93 rfl ?_
    refine zr_icmp_ge F 109 zd_MPacker_write_94 (by decide) (fun hb46 => ?_) (fun hb46 => ?_)
    ·
      rw [if_pos hb46] at h
      obtain rfl := Option.some.inj h
      refine zr_loc (L' := [(0, .ref (b + v0)), (2, .int v2), (5, .int v5)]) ⟨rfl, rfl, rfl, trivial⟩ ?_
      exact hx0 
    ·
      rw [if_neg hb46] at h
      refine zr_aload_n F zd_MPacker_write_97 rfl ?_
      refine zr_pcn 98 rfl ?_
      refine zr_iload F zd_MPacker_write_98 rfl ?_
      obtain ⟨le48, hs47, h⟩ := zoS_s h
      obtain ⟨p49, ep49, h⟩ := zoB_s h
      refine zr_callV0 F (k_MPacker_row l D tA b sh _ ep49) zd_MPacker_write_100 (zW_o hs47 (by decide)) rfl zs_MPacker_51 rfl zq_MPacker_row rfl rfl ⟨(Nat.le_of_ble_eq_true rfl), (Nat.le_of_ble_eq_true rfl)⟩ (Nat.le_of_ble_eq_true rfl) ⟨(Nat.le_of_ble_eq_true rfl), (Nat.le_of_ble_eq_true rfl)⟩ ?_
      refine zr_iinc (v := (v5 + 1)) F zd_MPacker_write_103 rfl rfl (by decide) ?_
      refine zr_goto F 91 zd_MPacker_write_106 (by decide) ?_
      refine zr_loc (L' := [(0, .ref (b + v0)), (2, .int v2), (5, .int (v5 + 1))]) ⟨rfl, rfl, rfl, trivial⟩ ?_
      exact ih _ _ _ _ _ h hx0
theorem zw_2231 : (Jvm.Cond.methodLink "OrreryBoxModel$Packer" (54 : Nat) ({ cls := "OrreryBoxModel$Packer", name := "pack", desc := "()V" } : Jvm.MethodName)) ∈ gw := gw_t 2231 (by decide +kernel) rfl
theorem zw_2233 : (Jvm.Cond.instanceMethod ({ cls := "OrreryBoxModel$Packer", name := "pack", desc := "()V" } : Jvm.MethodName)) ∈ gw := gw_t 2233 (by decide +kernel) rfl
theorem zv_127 : (Jvm.Cond.selects "OrreryBoxModel$Packer" (⟨"OrreryBoxModel$Packer", "pack", "()V"⟩ : MethodName) ⟨"OrreryBoxModel$Packer", "pack", "()V"⟩) ∈ gw := gw_s 127 (by decide +kernel) rfl
theorem zs_MPacker_54 : zwV "OrreryBoxModel$Packer" 54 "OrreryBoxModel$Packer" zy_MPacker_pack zb_MPacker_pack 6 none := ⟨zw_2231, zw_2233, zv_127, zw_16, zc_MPacker_pack⟩
theorem zw_2264 : (Jvm.Cond.methodLink "OrreryBoxModel$Packer" (57 : Nat) ({ cls := "OrreryBoxModel$Packer", name := "sum", desc := "()I" } : Jvm.MethodName)) ∈ gw := gw_t 2264 (by decide +kernel) rfl
theorem zw_2266 : (Jvm.Cond.instanceMethod ({ cls := "OrreryBoxModel$Packer", name := "sum", desc := "()I" } : Jvm.MethodName)) ∈ gw := gw_t 2266 (by decide +kernel) rfl
theorem zv_135 : (Jvm.Cond.selects "OrreryBoxModel$Packer" (⟨"OrreryBoxModel$Packer", "sum", "()I"⟩ : MethodName) ⟨"OrreryBoxModel$Packer", "sum", "()I"⟩) ∈ gw := gw_s 135 (by decide +kernel) rfl
theorem zs_MPacker_57 : zwV "OrreryBoxModel$Packer" 57 "OrreryBoxModel$Packer" zy_MPacker_sum zb_MPacker_sum 4 (some .int) := ⟨zw_2264, zw_2266, zv_135, zw_16, zc_MPacker_sum⟩
def F_MPacker_write (sh : zSh) (mm : zMem) (o : Nat) (x0_ : Int32) (x1_ : Int32) (x2_ : Nat) : Option (Int32 × zMem) := zoS (sh o) 12 (fun le2 => zoL (mI mm o 5 x0_) (fun mm3 => zoS (sh o) 12 (fun le5 => zoL (mR mm3 o 6 (some x2_)) (fun mm6 => zoS (sh o) 12 (fun le8 => zoL (mI mm6 o 3 0) (fun mm9 => zoS (sh o) 12 (fun le11 => Option.bind (F_MPacker_put4 sh mm9 o (-1991225785)) (fun p12 => zoS (sh o) 12 (fun le14 => Option.bind (F_MPacker_put4 sh p12 o 218765834) (fun p15 => zoS (sh o) 12 (fun le17 => Option.bind (F_MPacker_begin sh p15 o 73 72 68 82) (fun p18 => zoS (sh o) 12 (fun le20 => Option.bind (F_MPacker_put4 sh (p18.2) o x0_) (fun p21 => zoS (sh o) 12 (fun le23 => Option.bind (F_MPacker_put4 sh p21 o x1_) (fun p24 => zoS (sh o) 12 (fun le26 => Option.bind (F_MPacker_put sh p24 o 8) (fun p27 => zoS (sh o) 12 (fun le29 => Option.bind (F_MPacker_put sh p27 o 2) (fun p30 => zoS (sh o) 12 (fun le32 => Option.bind (F_MPacker_put sh p30 o 0) (fun p33 => zoS (sh o) 12 (fun le35 => Option.bind (F_MPacker_put sh p33 o 0) (fun p36 => zoS (sh o) 12 (fun le38 => Option.bind (F_MPacker_put sh p36 o 0) (fun p39 => zoS (sh o) 12 (fun le41 => Option.bind (F_MPacker_finish sh p39 o (p18.1)) (fun p42 => zoS (sh o) 12 (fun le44 => zoL (mI p42 o 1 0) (fun mm45 => Option.bind (L_MPacker_write_91 sh zfuel o x1_ 0 mm45) (fun q50 => zoS (sh (q50.1)) 12 (fun le52 => Option.bind (F_MPacker_begin sh (q50.2.2.2) (q50.1) 73 68 65 84) (fun p53 => zoS (sh (q50.1)) 12 (fun le55 => Option.bind (F_MPacker_put sh (p53.2) (q50.1) 120) (fun p56 => zoS (sh (q50.1)) 12 (fun le58 => Option.bind (F_MPacker_put sh p56 (q50.1) 1) (fun p59 => zoS (sh (q50.1)) 12 (fun le61 => Option.bind (F_MPacker_pack sh p59 (q50.1)) (fun p62 => zoS (sh (q50.1)) 12 (fun le64 => Option.bind (F_MPacker_sum sh p62 (q50.1)) (fun p65 => zoS (sh (q50.1)) 12 (fun le67 => Option.bind (F_MPacker_put4 sh (p65.2) (q50.1) (p65.1)) (fun p68 => zoS (sh (q50.1)) 12 (fun le70 => Option.bind (F_MPacker_finish sh p68 (q50.1) (p53.1)) (fun p71 => zoS (sh (q50.1)) 12 (fun le73 => Option.bind (F_MPacker_begin sh p71 (q50.1) 73 69 78 68) (fun p74 => zoS (sh (q50.1)) 12 (fun le76 => Option.bind (F_MPacker_finish sh (p74.2) (q50.1) (p74.1)) (fun p77 => zoS (sh (q50.1)) 12 (fun le79 => some ((p77.1 (q50.1) 3), p77)))))))))))))))))))))))))))))))))))))))))))))))))))
set_option maxHeartbeats 4000000 in
set_option maxRecDepth 100000 in
theorem k_MPacker_write (l : Launch) (D : va_G) (tA : Nat → ClassId) (b : Nat) (sh : zSh) (n : Nat) {mm : zMem} {o : Nat} {x0_ : Int32} {x1_ : Int32} {x2_ : Nat} {r : (Int32 × zMem)} (h : F_MPacker_write sh mm o x0_ x1_ x2_ = some r) : zM l D tA b zy_MPacker_write zb_MPacker_write 6 (some .int) 5 117 0 0 [.ref (b + o), .int x0_, .int x1_, .ref (b + x2_)] (zW tA b sh mm) n (zE (some (.int (r.1))) (zW tA b sh r.2) n) := by
  unfold F_MPacker_write at h
  refine zM_of (own := "OrreryBoxModel$Packer") (plainFor_of_name (by decide)) rfl (Nat.le_of_ble_eq_true rfl) (fun p e s m below meth c F hr hin hH => ?_)
  refine zr_aload_n F zd_MPacker_write_0 rfl ?_
  refine zr_iload_n F zd_MPacker_write_1 rfl ?_
  obtain ⟨le2, hs1, h⟩ := zoS_s h
  refine zr_put F 12 5 zd_MPacker_write_2 (zW_o hs1 (by decide)) rfl (by decide) zw_1553 rfl rfl rfl rfl (by exact (Nat.le_of_ble_eq_true rfl)) ?_
  obtain ⟨mm3, emm3, h⟩ := zoL_s h
  refine zr_norm (zW tA b sh mm3) _ (by rw [emm3]; exact zW_pI (v := x0_) hs1 (by decide) (zf_I_12_5 b _ _ _)) rfl ?_
  refine zr_aload_n F zd_MPacker_write_5 rfl ?_
  refine zr_aload_n F zd_MPacker_write_6 rfl ?_
  obtain ⟨le5, hs4, h⟩ := zoS_s h
  refine zr_put F 12 6 zd_MPacker_write_7 (zW_o hs4 (by decide)) rfl (by decide) zw_1554 rfl rfl rfl rfl (by exact (Nat.le_of_ble_eq_true rfl)) ?_
  obtain ⟨mm6, emm6, h⟩ := zoL_s h
  refine zr_norm (zW tA b sh mm6) _ (by rw [emm6]; exact zW_pR (v := (some x2_)) hs4 (by decide) (zf_R_12_6 b _ _ _)) rfl ?_
  refine zr_aload_n F zd_MPacker_write_10 rfl ?_
  refine zr_pcn 11 rfl ?_
  refine zr_iconstv (v := 0) F zd_MPacker_write_11 (by decide) ?_
  obtain ⟨le8, hs7, h⟩ := zoS_s h
  refine zr_put F 12 3 zd_MPacker_write_12 (zW_o hs7 (by decide)) rfl (by decide) zw_1550 rfl rfl rfl rfl (by exact (Nat.le_of_ble_eq_true rfl)) ?_
  obtain ⟨mm9, emm9, h⟩ := zoL_s h
  refine zr_norm (zW tA b sh mm9) _ (by rw [emm9]; exact zW_pI (v := 0) hs7 (by decide) (zf_I_12_3 b _ _ _)) rfl ?_
  refine zr_aload_n F zd_MPacker_write_15 rfl ?_
  refine zr_ldc F zd_MPacker_write_16 zw_2190 ?_
  obtain ⟨le11, hs10, h⟩ := zoS_s h
  obtain ⟨p12, ep12, h⟩ := zoB_s h
  refine zr_callV0 F (k_MPacker_put4 l D tA b sh _ ep12) zd_MPacker_write_18 (zW_o hs10 (by decide)) rfl zs_MPacker_26 rfl zq_MPacker_put4 rfl rfl ⟨(Nat.le_of_ble_eq_true rfl), (Nat.le_of_ble_eq_true rfl)⟩ (Nat.le_of_ble_eq_true rfl) ⟨(Nat.le_of_ble_eq_true rfl), (Nat.le_of_ble_eq_true rfl)⟩ ?_
  refine zr_aload_n F zd_MPacker_write_21 rfl ?_
  refine zr_ldc F zd_MPacker_write_22 zw_2199 ?_
  obtain ⟨le14, hs13, h⟩ := zoS_s h
  obtain ⟨p15, ep15, h⟩ := zoB_s h
  refine zr_callV0 F (k_MPacker_put4 l D tA b sh _ ep15) zd_MPacker_write_24 (zW_o hs13 (by decide)) rfl zs_MPacker_26 rfl zq_MPacker_put4 rfl rfl ⟨(Nat.le_of_ble_eq_true rfl), (Nat.le_of_ble_eq_true rfl)⟩ (Nat.le_of_ble_eq_true rfl) ⟨(Nat.le_of_ble_eq_true rfl), (Nat.le_of_ble_eq_true rfl)⟩ ?_
  refine zr_pcn 27 rfl ?_
  refine zr_aload_n F zd_MPacker_write_27 rfl ?_
  refine zr_bipushv (v := 73) F zd_MPacker_write_28 (by decide) ?_
  refine zr_bipushv (v := 72) F zd_MPacker_write_30 (by decide) ?_
  refine zr_bipushv (v := 68) F zd_MPacker_write_32 (by decide) ?_
  refine zr_bipushv (v := 82) F zd_MPacker_write_34 (by decide) ?_
  obtain ⟨le17, hs16, h⟩ := zoS_s h
  obtain ⟨p18, ep18, h⟩ := zoB_s h
  refine zr_callV1 F (k_MPacker_begin l D tA b sh _ ep18) zd_MPacker_write_36 (zW_o hs16 (by decide)) rfl zs_MPacker_41 rfl zq_MPacker_begin rfl rfl ⟨(Nat.le_of_ble_eq_true rfl), (Nat.le_of_ble_eq_true rfl)⟩ (Nat.le_of_ble_eq_true rfl) ⟨(Nat.le_of_ble_eq_true rfl), (Nat.le_of_ble_eq_true rfl)⟩ ?_
  refine zr_istore F zd_MPacker_write_39 (by decide) ?_
  refine zr_aload_n F zd_MPacker_write_41 rfl ?_
  refine zr_pcn 42 rfl ?_
  refine zr_iload_n F zd_MPacker_write_42 rfl ?_
  obtain ⟨le20, hs19, h⟩ := zoS_s h
  obtain ⟨p21, ep21, h⟩ := zoB_s h
  refine zr_callV0 F (k_MPacker_put4 l D tA b sh _ ep21) zd_MPacker_write_43 (zW_o hs19 (by decide)) rfl zs_MPacker_26 rfl zq_MPacker_put4 rfl rfl ⟨(Nat.le_of_ble_eq_true rfl), (Nat.le_of_ble_eq_true rfl)⟩ (Nat.le_of_ble_eq_true rfl) ⟨(Nat.le_of_ble_eq_true rfl), (Nat.le_of_ble_eq_true rfl)⟩ ?_
  refine zr_aload_n F zd_MPacker_write_46 rfl ?_
  refine zr_iload_n F zd_MPacker_write_47 rfl ?_
  obtain ⟨le23, hs22, h⟩ := zoS_s h
  obtain ⟨p24, ep24, h⟩ := zoB_s h
  refine zr_callV0 F (k_MPacker_put4 l D tA b sh _ ep24) zd_MPacker_write_48 (zW_o hs22 (by decide)) rfl zs_MPacker_26 rfl zq_MPacker_put4 rfl rfl ⟨(Nat.le_of_ble_eq_true rfl), (Nat.le_of_ble_eq_true rfl)⟩ (Nat.le_of_ble_eq_true rfl) ⟨(Nat.le_of_ble_eq_true rfl), (Nat.le_of_ble_eq_true rfl)⟩ ?_
  refine zr_aload_n F zd_MPacker_write_51 rfl ?_
  refine zr_bipushv (v := 8) F zd_MPacker_write_52 (by decide) ?_
  obtain ⟨le26, hs25, h⟩ := zoS_s h
  obtain ⟨p27, ep27, h⟩ := zoB_s h
  refine zr_callV0 F (k_MPacker_put l D tA b sh _ ep27) zd_MPacker_write_54 (zW_o hs25 (by decide)) rfl zs_MPacker_21 rfl zq_MPacker_put rfl rfl ⟨(Nat.le_of_ble_eq_true rfl), (Nat.le_of_ble_eq_true rfl)⟩ (Nat.le_of_ble_eq_true rfl) ⟨(Nat.le_of_ble_eq_true rfl), (Nat.le_of_ble_eq_true rfl)⟩ ?_
  refine zr_pcn 57 rfl ?_
  refine zr_aload_n F zd_MPacker_write_57 rfl ?_
  refine zr_iconstv (v := 2) F zd_MPacker_write_58 (by decide) ?_
  obtain ⟨le29, hs28, h⟩ := zoS_s h
  obtain ⟨p30, ep30, h⟩ := zoB_s h
  refine zr_callV0 F (k_MPacker_put l D tA b sh _ ep30) zd_MPacker_write_59 (zW_o hs28 (by decide)) rfl zs_MPacker_21 rfl zq_MPacker_put rfl rfl ⟨(Nat.le_of_ble_eq_true rfl), (Nat.le_of_ble_eq_true rfl)⟩ (Nat.le_of_ble_eq_true rfl) ⟨(Nat.le_of_ble_eq_true rfl), (Nat.le_of_ble_eq_true rfl)⟩ ?_
  refine zr_aload_n F zd_MPacker_write_62 rfl ?_
  refine zr_iconstv (v := 0) F zd_MPacker_write_63 (by decide) ?_
  obtain ⟨le32, hs31, h⟩ := zoS_s h
  obtain ⟨p33, ep33, h⟩ := zoB_s h
  refine zr_callV0 F (k_MPacker_put l D tA b sh _ ep33) zd_MPacker_write_64 (zW_o hs31 (by decide)) rfl zs_MPacker_21 rfl zq_MPacker_put rfl rfl ⟨(Nat.le_of_ble_eq_true rfl), (Nat.le_of_ble_eq_true rfl)⟩ (Nat.le_of_ble_eq_true rfl) ⟨(Nat.le_of_ble_eq_true rfl), (Nat.le_of_ble_eq_true rfl)⟩ ?_
  refine zr_aload_n F zd_MPacker_write_67 rfl ?_
  refine zr_iconstv (v := 0) F zd_MPacker_write_68 (by decide) ?_
  refine zr_pcn 69 rfl ?_
  obtain ⟨le35, hs34, h⟩ := zoS_s h
  obtain ⟨p36, ep36, h⟩ := zoB_s h
  refine zr_callV0 F (k_MPacker_put l D tA b sh _ ep36) zd_MPacker_write_69 (zW_o hs34 (by decide)) rfl zs_MPacker_21 rfl zq_MPacker_put rfl rfl ⟨(Nat.le_of_ble_eq_true rfl), (Nat.le_of_ble_eq_true rfl)⟩ (Nat.le_of_ble_eq_true rfl) ⟨(Nat.le_of_ble_eq_true rfl), (Nat.le_of_ble_eq_true rfl)⟩ ?_
  refine zr_aload_n F zd_MPacker_write_72 rfl ?_
  refine zr_iconstv (v := 0) F zd_MPacker_write_73 (by decide) ?_
  obtain ⟨le38, hs37, h⟩ := zoS_s h
  obtain ⟨p39, ep39, h⟩ := zoB_s h
  refine zr_callV0 F (k_MPacker_put l D tA b sh _ ep39) zd_MPacker_write_74 (zW_o hs37 (by decide)) rfl zs_MPacker_21 rfl zq_MPacker_put rfl rfl ⟨(Nat.le_of_ble_eq_true rfl), (Nat.le_of_ble_eq_true rfl)⟩ (Nat.le_of_ble_eq_true rfl) ⟨(Nat.le_of_ble_eq_true rfl), (Nat.le_of_ble_eq_true rfl)⟩ ?_
  refine zr_aload_n F zd_MPacker_write_77 rfl ?_
  refine zr_iload F zd_MPacker_write_78 rfl ?_
  obtain ⟨le41, hs40, h⟩ := zoS_s h
  obtain ⟨p42, ep42, h⟩ := zoB_s h
  refine zr_callV0 F (k_MPacker_finish l D tA b sh _ ep42) zd_MPacker_write_80 (zW_o hs40 (by decide)) rfl zs_MPacker_45 rfl zq_MPacker_finish rfl rfl ⟨(Nat.le_of_ble_eq_true rfl), (Nat.le_of_ble_eq_true rfl)⟩ (Nat.le_of_ble_eq_true rfl) ⟨(Nat.le_of_ble_eq_true rfl), (Nat.le_of_ble_eq_true rfl)⟩ ?_
  refine zr_aload_n F zd_MPacker_write_83 rfl ?_
  refine zr_pcn 84 rfl ?_
  refine zr_iconstv (v := 0) F zd_MPacker_write_84 (by decide) ?_
  obtain ⟨le44, hs43, h⟩ := zoS_s h
  refine zr_put F 12 1 zd_MPacker_write_85 (zW_o hs43 (by decide)) rfl (by decide) zw_1547 rfl rfl rfl rfl (by exact (Nat.le_of_ble_eq_true rfl)) ?_
  obtain ⟨mm45, emm45, h⟩ := zoL_s h
  refine zr_norm (zW tA b sh mm45) _ (by rw [emm45]; exact zW_pI (v := 0) hs43 (by decide) (zf_I_12_1 b _ _ _)) rfl ?_
  refine zr_iconstv (v := 0) F zd_MPacker_write_88 (by decide) ?_
  refine zr_istore F zd_MPacker_write_89 (by decide) ?_
  obtain ⟨q50, eq50, h⟩ := zoB_s h
  refine zr_loc (L' := [(0, .ref (b + o)), (2, .int x1_), (5, .int 0)]) ⟨rfl, rfl, rfl, trivial⟩ ?_
  refine lp_MPacker_write_91 F _ _ _ _ _ _ eq50 ?_
  ·
    refine zr_aload_n F zd_MPacker_write_109 rfl ?_
    refine zr_bipushv (v := 73) F zd_MPacker_write_110 (by decide) ?_
    refine zr_bipushv (v := 68) F zd_MPacker_write_112 (by decide) ?_
    refine zr_bipushv (v := 65) F zd_MPacker_write_114 (by decide) ?_
    refine zr_pcn 116 rfl ?_
    refine zr_bipushv (v := 84) F zd_MPacker_write_116 (by decide) ?_
    obtain ⟨le52, hs51, h⟩ := zoS_s h
    obtain ⟨p53, ep53, h⟩ := zoB_s h
    refine zr_callV1 F (k_MPacker_begin l D tA b sh _ ep53) zd_MPacker_write_118 (zW_o hs51 (by decide)) rfl zs_MPacker_41 rfl zq_MPacker_begin rfl rfl ⟨(Nat.le_of_ble_eq_true rfl), (Nat.le_of_ble_eq_true rfl)⟩ (Nat.le_of_ble_eq_true rfl) ⟨(Nat.le_of_ble_eq_true rfl), (Nat.le_of_ble_eq_true rfl)⟩ ?_
    refine zr_istore F zd_MPacker_write_121 (by decide) ?_
    refine zr_aload_n F zd_MPacker_write_123 rfl ?_
    refine zr_bipushv (v := 120) F zd_MPacker_write_124 (by decide) ?_
    obtain ⟨le55, hs54, h⟩ := zoS_s h
    obtain ⟨p56, ep56, h⟩ := zoB_s h
    refine zr_callV0 F (k_MPacker_put l D tA b sh _ ep56) zd_MPacker_write_126 (zW_o hs54 (by decide)) rfl zs_MPacker_21 rfl zq_MPacker_put rfl rfl ⟨(Nat.le_of_ble_eq_true rfl), (Nat.le_of_ble_eq_true rfl)⟩ (Nat.le_of_ble_eq_true rfl) ⟨(Nat.le_of_ble_eq_true rfl), (Nat.le_of_ble_eq_true rfl)⟩ ?_
    refine zr_aload_n F zd_MPacker_write_129 rfl ?_
    refine zr_iconstv (v := 1) F zd_MPacker_write_130 (by decide) ?_
    refine zr_pcn 131 rfl ?_
    obtain ⟨le58, hs57, h⟩ := zoS_s h
    obtain ⟨p59, ep59, h⟩ := zoB_s h
    refine zr_callV0 F (k_MPacker_put l D tA b sh _ ep59) zd_MPacker_write_131 (zW_o hs57 (by decide)) rfl zs_MPacker_21 rfl zq_MPacker_put rfl rfl ⟨(Nat.le_of_ble_eq_true rfl), (Nat.le_of_ble_eq_true rfl)⟩ (Nat.le_of_ble_eq_true rfl) ⟨(Nat.le_of_ble_eq_true rfl), (Nat.le_of_ble_eq_true rfl)⟩ ?_
    refine zr_aload_n F zd_MPacker_write_134 rfl ?_
    obtain ⟨le61, hs60, h⟩ := zoS_s h
    obtain ⟨p62, ep62, h⟩ := zoB_s h
    refine zr_callV0 F (k_MPacker_pack l D tA b sh _ ep62) zd_MPacker_write_135 (zW_o hs60 (by decide)) rfl zs_MPacker_54 rfl zq_MPacker_pack rfl rfl ⟨(Nat.le_of_ble_eq_true rfl), (Nat.le_of_ble_eq_true rfl)⟩ (Nat.le_of_ble_eq_true rfl) ⟨(Nat.le_of_ble_eq_true rfl), (Nat.le_of_ble_eq_true rfl)⟩ ?_
    refine zr_aload_n F zd_MPacker_write_138 rfl ?_
    refine zr_aload_n F zd_MPacker_write_139 rfl ?_
    obtain ⟨le64, hs63, h⟩ := zoS_s h
    obtain ⟨p65, ep65, h⟩ := zoB_s h
    refine zr_callV1 F (k_MPacker_sum l D tA b sh _ ep65) zd_MPacker_write_140 (zW_o hs63 (by decide)) rfl zs_MPacker_57 rfl zq_MPacker_sum rfl rfl ⟨(Nat.le_of_ble_eq_true rfl), (Nat.le_of_ble_eq_true rfl)⟩ (Nat.le_of_ble_eq_true rfl) ⟨(Nat.le_of_ble_eq_true rfl), (Nat.le_of_ble_eq_true rfl)⟩ ?_
    obtain ⟨le67, hs66, h⟩ := zoS_s h
    obtain ⟨p68, ep68, h⟩ := zoB_s h
    refine zr_callV0 F (k_MPacker_put4 l D tA b sh _ ep68) zd_MPacker_write_143 (zW_o hs66 (by decide)) rfl zs_MPacker_26 rfl zq_MPacker_put4 rfl rfl ⟨(Nat.le_of_ble_eq_true rfl), (Nat.le_of_ble_eq_true rfl)⟩ (Nat.le_of_ble_eq_true rfl) ⟨(Nat.le_of_ble_eq_true rfl), (Nat.le_of_ble_eq_true rfl)⟩ ?_
    refine zr_aload_n F zd_MPacker_write_146 rfl ?_
    refine zr_pcn 147 rfl ?_
    refine zr_iload F zd_MPacker_write_147 rfl ?_
    obtain ⟨le70, hs69, h⟩ := zoS_s h
    obtain ⟨p71, ep71, h⟩ := zoB_s h
    refine zr_callV0 F (k_MPacker_finish l D tA b sh _ ep71) zd_MPacker_write_149 (zW_o hs69 (by decide)) rfl zs_MPacker_45 rfl zq_MPacker_finish rfl rfl ⟨(Nat.le_of_ble_eq_true rfl), (Nat.le_of_ble_eq_true rfl)⟩ (Nat.le_of_ble_eq_true rfl) ⟨(Nat.le_of_ble_eq_true rfl), (Nat.le_of_ble_eq_true rfl)⟩ ?_
    refine zr_aload_n F zd_MPacker_write_152 rfl ?_
    refine zr_aload_n F zd_MPacker_write_153 rfl ?_
    refine zr_bipushv (v := 73) F zd_MPacker_write_154 (by decide) ?_
    refine zr_bipushv (v := 69) F zd_MPacker_write_156 (by decide) ?_
    refine zr_bipushv (v := 78) F zd_MPacker_write_158 (by decide) ?_
    refine zr_bipushv (v := 68) F zd_MPacker_write_160 (by decide) ?_
    refine zr_pcn 162 rfl ?_
    obtain ⟨le73, hs72, h⟩ := zoS_s h
    obtain ⟨p74, ep74, h⟩ := zoB_s h
    refine zr_callV1 F (k_MPacker_begin l D tA b sh _ ep74) zd_MPacker_write_162 (zW_o hs72 (by decide)) rfl zs_MPacker_41 rfl zq_MPacker_begin rfl rfl ⟨(Nat.le_of_ble_eq_true rfl), (Nat.le_of_ble_eq_true rfl)⟩ (Nat.le_of_ble_eq_true rfl) ⟨(Nat.le_of_ble_eq_true rfl), (Nat.le_of_ble_eq_true rfl)⟩ ?_
    obtain ⟨le76, hs75, h⟩ := zoS_s h
    obtain ⟨p77, ep77, h⟩ := zoB_s h
    refine zr_callV0 F (k_MPacker_finish l D tA b sh _ ep77) zd_MPacker_write_165 (zW_o hs75 (by decide)) rfl zs_MPacker_45 rfl zq_MPacker_finish rfl rfl ⟨(Nat.le_of_ble_eq_true rfl), (Nat.le_of_ble_eq_true rfl)⟩ (Nat.le_of_ble_eq_true rfl) ⟨(Nat.le_of_ble_eq_true rfl), (Nat.le_of_ble_eq_true rfl)⟩ ?_
    refine zr_aload_n F zd_MPacker_write_168 rfl ?_
    obtain ⟨le79, hs78, h⟩ := zoS_s h
    refine zr_get F 12 3 zd_MPacker_write_169 (zW_o hs78 (by decide)) rfl (by decide) zw_1550 rfl (by rfl) ?_
    obtain rfl := Option.some.inj h
    exact zr_iret F hr zd_MPacker_write_172 (Nat.le_of_ble_eq_true rfl) (Nat.le_of_ble_eq_true rfl) ⟨rfl, rfl, rfl⟩
abbrev zb_MPainter_texel : ByteArray := prog_16_method_32_code
def zy_MPainter_texel : MethodName := ⟨"OrreryBoxModel$Painter", "texel", "(IIJJI)J"⟩
theorem zc_MPainter_texel : Cond.code zy_MPainter_texel zb_MPainter_texel 11 (some .long) ∈ gw := gw_t 2146 (by decide +kernel) rfl
theorem zq_MPainter_texel : zy_MPainter_texel.cls ≠ "java/lang/invoke/MethodHandle" ∧ zy_MPainter_texel.cls ≠ "java/lang/invoke/VarHandle" ∧ (parseMethodDescriptor zy_MPainter_texel.desc).map (fun d => d.parameters.length) = some 5 := by decide +kernel
theorem zd_MPainter_texel_0 : decode zb_MPainter_texel 0 = .ok (.aload_n 0, 1) := by decide +kernel
theorem zd_MPainter_texel_1 : decode zb_MPainter_texel 1 = .ok (.getfield 129, 3) := by decide +kernel
theorem zd_MPainter_texel_4 : decode zb_MPainter_texel 4 = .ok (.getfield 308, 3) := by decide +kernel
theorem zd_MPainter_texel_7 : decode zb_MPainter_texel 7 = .ok (.iload_n 1, 1) := by decide +kernel
theorem zd_MPainter_texel_8 : decode zb_MPainter_texel 8 = .ok (.iaload, 1) := by decide +kernel
theorem zd_MPainter_texel_9 : decode zb_MPainter_texel 9 = .ok (.iload_n 2, 1) := by decide +kernel
theorem zd_MPainter_texel_10 : decode zb_MPainter_texel 10 = .ok (.ishr, 1) := by decide +kernel
theorem zd_MPainter_texel_11 : decode zb_MPainter_texel 11 = .ok (.istore 8, 2) := by decide +kernel
theorem zd_MPainter_texel_13 : decode zb_MPainter_texel 13 = .ok (.lload_n 3, 1) := by decide +kernel
theorem zd_MPainter_texel_14 : decode zb_MPainter_texel 14 = .ok (.iload 8, 2) := by decide +kernel
theorem zd_MPainter_texel_16 : decode zb_MPainter_texel 16 = .ok (.aload_n 0, 1) := by decide +kernel
theorem zd_MPainter_texel_17 : decode zb_MPainter_texel 17 = .ok (.getfield 129, 3) := by decide +kernel
theorem zd_MPainter_texel_20 : decode zb_MPainter_texel 20 = .ok (.getfield 312, 3) := by decide +kernel
theorem zd_MPainter_texel_23 : decode zb_MPainter_texel 23 = .ok (.iload_n 1, 1) := by decide +kernel
theorem zd_MPainter_texel_24 : decode zb_MPainter_texel 24 = .ok (.iaload, 1) := by decide +kernel
theorem zd_MPainter_texel_25 : decode zb_MPainter_texel 25 = .ok (.invokestatic 315, 3) := by decide +kernel
theorem zd_MPainter_texel_28 : decode zb_MPainter_texel 28 = .ok (.istore 9, 2) := by decide +kernel
theorem zd_MPainter_texel_30 : decode zb_MPainter_texel 30 = .ok (.lload 5, 2) := by decide +kernel
theorem zd_MPainter_texel_32 : decode zb_MPainter_texel 32 = .ok (.iload 8, 2) := by decide +kernel
theorem zd_MPainter_texel_34 : decode zb_MPainter_texel 34 = .ok (.aload_n 0, 1) := by decide +kernel
theorem zd_MPainter_texel_35 : decode zb_MPainter_texel 35 = .ok (.getfield 129, 3) := by decide +kernel
theorem zd_MPainter_texel_38 : decode zb_MPainter_texel 38 = .ok (.getfield 312, 3) := by decide +kernel
theorem zd_MPainter_texel_41 : decode zb_MPainter_texel 41 = .ok (.iload_n 1, 1) := by decide +kernel
theorem zd_MPainter_texel_42 : decode zb_MPainter_texel 42 = .ok (.iaload, 1) := by decide +kernel
theorem zd_MPainter_texel_43 : decode zb_MPainter_texel 43 = .ok (.invokestatic 315, 3) := by decide +kernel
theorem zd_MPainter_texel_46 : decode zb_MPainter_texel 46 = .ok (.istore 10, 2) := by decide +kernel
theorem zd_MPainter_texel_48 : decode zb_MPainter_texel 48 = .ok (.aload_n 0, 1) := by decide +kernel
theorem zd_MPainter_texel_49 : decode zb_MPainter_texel 49 = .ok (.getfield 129, 3) := by decide +kernel
theorem zd_MPainter_texel_52 : decode zb_MPainter_texel 52 = .ok (.getfield 319, 3) := by decide +kernel
theorem zd_MPainter_texel_55 : decode zb_MPainter_texel 55 = .ok (.aload_n 0, 1) := by decide +kernel
theorem zd_MPainter_texel_56 : decode zb_MPainter_texel 56 = .ok (.getfield 129, 3) := by decide +kernel
theorem zd_MPainter_texel_59 : decode zb_MPainter_texel 59 = .ok (.iload_n 1, 1) := by decide +kernel
theorem zd_MPainter_texel_60 : decode zb_MPainter_texel 60 = .ok (.iload_n 2, 1) := by decide +kernel
theorem zd_MPainter_texel_61 : decode zb_MPainter_texel 61 = .ok (.invokevirtual 322, 3) := by decide +kernel
theorem zd_MPainter_texel_64 : decode zb_MPainter_texel 64 = .ok (.iconst 3, 1) := by decide +kernel
theorem zd_MPainter_texel_65 : decode zb_MPainter_texel 65 = .ok (.iload 8, 2) := by decide +kernel
theorem zd_MPainter_texel_67 : decode zb_MPainter_texel 67 = .ok (.iload 10, 2) := by decide +kernel
theorem zd_MPainter_texel_69 : decode zb_MPainter_texel 69 = .ok (.imul, 1) := by decide +kernel
theorem zd_MPainter_texel_70 : decode zb_MPainter_texel 70 = .ok (.iload 9, 2) := by decide +kernel
theorem zd_MPainter_texel_72 : decode zb_MPainter_texel 72 = .ok (.iadd, 1) := by decide +kernel
theorem zd_MPainter_texel_73 : decode zb_MPainter_texel 73 = .ok (.imul, 1) := by decide +kernel
theorem zd_MPainter_texel_74 : decode zb_MPainter_texel 74 = .ok (.iadd, 1) := by decide +kernel
theorem zd_MPainter_texel_75 : decode zb_MPainter_texel 75 = .ok (.iload 7, 2) := by decide +kernel
theorem zd_MPainter_texel_77 : decode zb_MPainter_texel 77 = .ok (.iadd, 1) := by decide +kernel
theorem zd_MPainter_texel_78 : decode zb_MPainter_texel 78 = .ok (.iaload, 1) := by decide +kernel
theorem zd_MPainter_texel_79 : decode zb_MPainter_texel 79 = .ok (.i2l, 1) := by decide +kernel
theorem zd_MPainter_texel_80 : decode zb_MPainter_texel 80 = .ok (.lreturn, 1) := by decide +kernel
theorem zw_1336 : (Jvm.Cond.fieldLink "OrreryBoxModel$Painter" (312 : Nat) "OrreryBoxModel$Scene" "wrap" "[I") ∈ gw := gw_t 1336 (by decide +kernel) rfl
theorem zw_2147 : (Jvm.Cond.methodLink "OrreryBoxModel$Painter" (315 : Nat) ({ cls := "OrreryBoxModel$Painter", name := "wrapped", desc := "(JII)I" } : Jvm.MethodName)) ∈ gw := gw_t 2147 (by decide +kernel) rfl
theorem zw_2148 : (Jvm.Cond.static ({ cls := "OrreryBoxModel$Painter", name := "wrapped", desc := "(JII)I" } : Jvm.MethodName)) ∈ gw := gw_t 2148 (by decide +kernel) rfl
theorem zs_MPainter_315 : zwS "OrreryBoxModel$Painter" 315 zy_MPainter_wrapped zb_MPainter_wrapped 5 (some .int) := ⟨zw_2147, zw_2148, zw_17, zc_MPainter_wrapped⟩
theorem zw_1342 : (Jvm.Cond.fieldLink "OrreryBoxModel$Painter" (319 : Nat) "OrreryBoxModel$Scene" "texel" "[I") ∈ gw := gw_t 1342 (by decide +kernel) rfl
theorem zw_2151 : (Jvm.Cond.methodLink "OrreryBoxModel$Painter" (322 : Nat) ({ cls := "OrreryBoxModel$Scene", name := "levelAt", desc := "(II)I" } : Jvm.MethodName)) ∈ gw := gw_t 2151 (by decide +kernel) rfl
theorem zs_MPainter_322 : zwV "OrreryBoxModel$Painter" 322 "OrreryBoxModel$Scene" zy_MScene_levelAt zb_MScene_levelAt 6 (some .int) := ⟨zw_2151, zw_1912, zw_1913, zw_14, zc_MScene_levelAt⟩
def F_MPainter_texel (sh : zSh) (mm : zMem) (o : Nat) (x0_ : Int32) (x1_ : Int32) (x2_ : Int64) (x3_ : Int64) (x4_ : Int32) : Option (Int64 × zMem) := zoS (sh o) 13 (fun le2 => Option.bind (mm.2.2 o 5) (fun a3 => zoS (sh a3) 15 (fun le5 => Option.bind (mm.2.2 a3 5) (fun a6 => zoS (sh a6) 100 (fun le8 => if (x0_ : Int32) < 0 ∨ le8 ≤ (x0_ : Int32).toNatClampNeg then none else zoL ((mm.1 a6 (x0_ : Int32).toNatClampNeg) >>> (x1_ &&& 31)) (fun x10 => zoS (sh o) 13 (fun le12 => Option.bind (mm.2.2 o 5) (fun a13 => zoS (sh a13) 15 (fun le15 => Option.bind (mm.2.2 a13 6) (fun a16 => zoS (sh a16) 100 (fun le18 => if (x0_ : Int32) < 0 ∨ le18 ≤ (x0_ : Int32).toNatClampNeg then none else zoL (mm.1 a16 (x0_ : Int32).toNatClampNeg) (fun x20 => Option.bind (F_MPainter_wrapped sh mm x2_ x10 x20) (fun p21 => zoS (sh o) 13 (fun le23 => Option.bind ((p21.2).2.2 o 5) (fun a24 => zoS (sh a24) 15 (fun le26 => Option.bind ((p21.2).2.2 a24 6) (fun a27 => zoS (sh a27) 100 (fun le29 => if (x0_ : Int32) < 0 ∨ le29 ≤ (x0_ : Int32).toNatClampNeg then none else zoL ((p21.2).1 a27 (x0_ : Int32).toNatClampNeg) (fun x31 => Option.bind (F_MPainter_wrapped sh (p21.2) x3_ x10 x31) (fun p32 => zoS (sh o) 13 (fun le34 => Option.bind ((p32.2).2.2 o 5) (fun a35 => zoS (sh a35) 15 (fun le37 => Option.bind ((p32.2).2.2 a35 8) (fun a38 => zoS (sh o) 13 (fun le40 => Option.bind ((p32.2).2.2 o 5) (fun a41 => zoS (sh a41) 15 (fun le43 => Option.bind (F_MScene_levelAt sh (p32.2) a41 x0_ x1_) (fun p44 => zoL ((p44.1 + (3 * ((x10 * p32.1) + p21.1))) + x4_) (fun i45 => zoS (sh a38) 100 (fun le47 => if (i45 : Int32) < 0 ∨ le47 ≤ (i45 : Int32).toNatClampNeg then none else some (((((p44.2).1 a38 (i45 : Int32).toNatClampNeg) : Int32).toInt64), p44.2)))))))))))))))))))))))))))))))
set_option maxHeartbeats 4000000 in
set_option maxRecDepth 100000 in
theorem k_MPainter_texel (l : Launch) (D : va_G) (tA : Nat → ClassId) (b : Nat) (sh : zSh) (n : Nat) {mm : zMem} {o : Nat} {x0_ : Int32} {x1_ : Int32} {x2_ : Int64} {x3_ : Int64} {x4_ : Int32} {r : (Int64 × zMem)} (h : F_MPainter_texel sh mm o x0_ x1_ x2_ x3_ x4_ = some r) : zM l D tA b zy_MPainter_texel zb_MPainter_texel 11 (some .long) 2 49 0 0 [.ref (b + o), .int x0_, .int x1_, .long x2_, .long x3_, .int x4_] (zW tA b sh mm) n (zE (some (.long (r.1))) (zW tA b sh r.2) n) := by
  unfold F_MPainter_texel at h
  refine zM_of (own := "OrreryBoxModel$Painter") (plainFor_of_name (by decide)) rfl (Nat.le_of_ble_eq_true rfl) (fun p e s m below meth c F hr hin hH => ?_)
  refine zr_aload_n F zd_MPainter_texel_0 rfl ?_
  obtain ⟨le2, hs1, h⟩ := zoS_s h
  obtain ⟨a3, ea3, h⟩ := zoB_s h
  refine zr_get F 13 5 zd_MPainter_texel_1 (zW_o hs1 (by decide)) rfl (by decide) zw_1581 rfl (by rfl) ?_
  refine zr_tor ea3 ?_
  obtain ⟨le5, hs4, h⟩ := zoS_s h
  obtain ⟨a6, ea6, h⟩ := zoB_s h
  refine zr_get F 15 5 zd_MPainter_texel_4 (zW_o hs4 (by decide)) rfl (by decide) zw_1333 rfl (by rfl) ?_
  refine zr_tor ea6 ?_
  refine zr_iload_n F zd_MPainter_texel_7 rfl ?_
  obtain ⟨le8, hs7, h⟩ := zoS_s h
  obtain ⟨hi9, h⟩ := zoI_s h
  refine zr_iald F zd_MPainter_texel_8 (zW_a0 hs7) hi9 ?_
  refine zr_iload_n F zd_MPainter_texel_9 rfl ?_
  refine zr_ishr F zd_MPainter_texel_10 ?_
  refine zr_pcn 11 rfl ?_
  obtain ⟨x10, ex10, h⟩ := zoL_s h
  rw [← ex10]
  refine zr_istore F zd_MPainter_texel_11 (by decide) ?_
  refine zr_lload_n F zd_MPainter_texel_13 rfl ?_
  refine zr_iload F zd_MPainter_texel_14 rfl ?_
  refine zr_aload_n F zd_MPainter_texel_16 rfl ?_
  obtain ⟨le12, hs11, h⟩ := zoS_s h
  obtain ⟨a13, ea13, h⟩ := zoB_s h
  refine zr_get F 13 5 zd_MPainter_texel_17 (zW_o hs11 (by decide)) rfl (by decide) zw_1581 rfl (by rfl) ?_
  refine zr_tor ea13 ?_
  obtain ⟨le15, hs14, h⟩ := zoS_s h
  obtain ⟨a16, ea16, h⟩ := zoB_s h
  refine zr_get F 15 6 zd_MPainter_texel_20 (zW_o hs14 (by decide)) rfl (by decide) zw_1336 rfl (by rfl) ?_
  refine zr_tor ea16 ?_
  refine zr_iload_n F zd_MPainter_texel_23 rfl ?_
  obtain ⟨le18, hs17, h⟩ := zoS_s h
  obtain ⟨hi19, h⟩ := zoI_s h
  refine zr_iald F zd_MPainter_texel_24 (zW_a0 hs17) hi19 ?_
  refine zr_pcn 25 rfl ?_
  obtain ⟨x20, ex20, h⟩ := zoL_s h
  rw [← ex20]
  obtain ⟨p21, ep21, h⟩ := zoB_s h
  refine zr_callS1 F (k_MPainter_wrapped l D tA b sh _ ep21) zd_MPainter_texel_25 zs_MPainter_315 zq_MPainter_wrapped rfl rfl ⟨(Nat.le_of_ble_eq_true rfl), (Nat.le_of_ble_eq_true rfl)⟩ (Nat.le_of_ble_eq_true rfl) ⟨(Nat.le_of_ble_eq_true rfl), (Nat.le_of_ble_eq_true rfl)⟩ ?_
  refine zr_istore F zd_MPainter_texel_28 (by decide) ?_
  refine zr_lload F zd_MPainter_texel_30 rfl ?_
  refine zr_iload F zd_MPainter_texel_32 rfl ?_
  refine zr_aload_n F zd_MPainter_texel_34 rfl ?_
  obtain ⟨le23, hs22, h⟩ := zoS_s h
  obtain ⟨a24, ea24, h⟩ := zoB_s h
  refine zr_get F 13 5 zd_MPainter_texel_35 (zW_o hs22 (by decide)) rfl (by decide) zw_1581 rfl (by rfl) ?_
  refine zr_tor ea24 ?_
  obtain ⟨le26, hs25, h⟩ := zoS_s h
  obtain ⟨a27, ea27, h⟩ := zoB_s h
  refine zr_get F 15 6 zd_MPainter_texel_38 (zW_o hs25 (by decide)) rfl (by decide) zw_1336 rfl (by rfl) ?_
  refine zr_tor ea27 ?_
  refine zr_iload_n F zd_MPainter_texel_41 rfl ?_
  refine zr_pcn 42 rfl ?_
  obtain ⟨le29, hs28, h⟩ := zoS_s h
  obtain ⟨hi30, h⟩ := zoI_s h
  refine zr_iald F zd_MPainter_texel_42 (zW_a0 hs28) hi30 ?_
  obtain ⟨x31, ex31, h⟩ := zoL_s h
  rw [← ex31]
  obtain ⟨p32, ep32, h⟩ := zoB_s h
  refine zr_callS1 F (k_MPainter_wrapped l D tA b sh _ ep32) zd_MPainter_texel_43 zs_MPainter_315 zq_MPainter_wrapped rfl rfl ⟨(Nat.le_of_ble_eq_true rfl), (Nat.le_of_ble_eq_true rfl)⟩ (Nat.le_of_ble_eq_true rfl) ⟨(Nat.le_of_ble_eq_true rfl), (Nat.le_of_ble_eq_true rfl)⟩ ?_
  refine zr_istore F zd_MPainter_texel_46 (by decide) ?_
  refine zr_aload_n F zd_MPainter_texel_48 rfl ?_
  obtain ⟨le34, hs33, h⟩ := zoS_s h
  obtain ⟨a35, ea35, h⟩ := zoB_s h
  refine zr_get F 13 5 zd_MPainter_texel_49 (zW_o hs33 (by decide)) rfl (by decide) zw_1581 rfl (by rfl) ?_
  refine zr_tor ea35 ?_
  obtain ⟨le37, hs36, h⟩ := zoS_s h
  obtain ⟨a38, ea38, h⟩ := zoB_s h
  refine zr_get F 15 8 zd_MPainter_texel_52 (zW_o hs36 (by decide)) rfl (by decide) zw_1342 rfl (by rfl) ?_
  refine zr_tor ea38 ?_
  refine zr_aload_n F zd_MPainter_texel_55 rfl ?_
  obtain ⟨le40, hs39, h⟩ := zoS_s h
  obtain ⟨a41, ea41, h⟩ := zoB_s h
  refine zr_get F 13 5 zd_MPainter_texel_56 (zW_o hs39 (by decide)) rfl (by decide) zw_1581 rfl (by rfl) ?_
  refine zr_tor ea41 ?_
  refine zr_pcn 59 rfl ?_
  refine zr_iload_n F zd_MPainter_texel_59 rfl ?_
  refine zr_iload_n F zd_MPainter_texel_60 rfl ?_
  obtain ⟨le43, hs42, h⟩ := zoS_s h
  obtain ⟨p44, ep44, h⟩ := zoB_s h
  refine zr_callV1 F (k_MScene_levelAt l D tA b sh _ ep44) zd_MPainter_texel_61 (zW_o hs42 (by decide)) rfl zs_MPainter_322 rfl zq_MScene_levelAt rfl rfl ⟨(Nat.le_of_ble_eq_true rfl), (Nat.le_of_ble_eq_true rfl)⟩ (Nat.le_of_ble_eq_true rfl) ⟨(Nat.le_of_ble_eq_true rfl), (Nat.le_of_ble_eq_true rfl)⟩ ?_
  refine zr_iconstv (v := 3) F zd_MPainter_texel_64 (by decide) ?_
  refine zr_iload F zd_MPainter_texel_65 rfl ?_
  refine zr_iload F zd_MPainter_texel_67 rfl ?_
  refine zr_imul F zd_MPainter_texel_69 ?_
  refine zr_iload F zd_MPainter_texel_70 rfl ?_
  refine zr_pcn 72 rfl ?_
  refine zr_iadd F zd_MPainter_texel_72 ?_
  refine zr_imul F zd_MPainter_texel_73 ?_
  refine zr_iadd F zd_MPainter_texel_74 ?_
  refine zr_iload F zd_MPainter_texel_75 rfl ?_
  refine zr_iadd F zd_MPainter_texel_77 ?_
  obtain ⟨i45, ei45, h⟩ := zoL_s h
  rw [← ei45]
  obtain ⟨le47, hs46, h⟩ := zoS_s h
  obtain ⟨hi48, h⟩ := zoI_s h
  refine zr_iald F zd_MPainter_texel_78 (zW_a0 hs46) hi48 ?_
  refine zr_i2l F zd_MPainter_texel_79 ?_
  obtain rfl := Option.some.inj h
  exact zr_lret F hr zd_MPainter_texel_80 (Nat.le_of_ble_eq_true rfl) (Nat.le_of_ble_eq_true rfl) ⟨rfl, rfl, rfl⟩
abbrev zb_MPainter_sample : ByteArray := prog_16_method_33_code
def zy_MPainter_sample : MethodName := ⟨"OrreryBoxModel$Painter", "sample", "(IIJJI)J"⟩
theorem zc_MPainter_sample : Cond.code zy_MPainter_sample zb_MPainter_sample 24 (some .long) ∈ gw := gw_t 2142 (by decide +kernel) rfl
theorem zq_MPainter_sample : zy_MPainter_sample.cls ≠ "java/lang/invoke/MethodHandle" ∧ zy_MPainter_sample.cls ≠ "java/lang/invoke/VarHandle" ∧ (parseMethodDescriptor zy_MPainter_sample.desc).map (fun d => d.parameters.length) = some 5 := by decide +kernel
theorem zd_MPainter_sample_0 : decode zb_MPainter_sample 0 = .ok (.aload_n 0, 1) := by decide +kernel
theorem zd_MPainter_sample_1 : decode zb_MPainter_sample 1 = .ok (.getfield 129, 3) := by decide +kernel
theorem zd_MPainter_sample_4 : decode zb_MPainter_sample 4 = .ok (.getfield 308, 3) := by decide +kernel
theorem zd_MPainter_sample_7 : decode zb_MPainter_sample 7 = .ok (.iload_n 1, 1) := by decide +kernel
theorem zd_MPainter_sample_8 : decode zb_MPainter_sample 8 = .ok (.iaload, 1) := by decide +kernel
theorem zd_MPainter_sample_9 : decode zb_MPainter_sample 9 = .ok (.iload_n 2, 1) := by decide +kernel
theorem zd_MPainter_sample_10 : decode zb_MPainter_sample 10 = .ok (.ishr, 1) := by decide +kernel
theorem zd_MPainter_sample_11 : decode zb_MPainter_sample 11 = .ok (.i2l, 1) := by decide +kernel
theorem zd_MPainter_sample_12 : decode zb_MPainter_sample 12 = .ok (.lstore 8, 2) := by decide +kernel
theorem zd_MPainter_sample_14 : decode zb_MPainter_sample 14 = .ok (.lload_n 3, 1) := by decide +kernel
theorem zd_MPainter_sample_15 : decode zb_MPainter_sample 15 = .ok (.lload 8, 2) := by decide +kernel
theorem zd_MPainter_sample_17 : decode zb_MPainter_sample 17 = .ok (.lmul, 1) := by decide +kernel
theorem zd_MPainter_sample_18 : decode zb_MPainter_sample 18 = .ok (.lstore 10, 2) := by decide +kernel
theorem zd_MPainter_sample_20 : decode zb_MPainter_sample 20 = .ok (.lload 5, 2) := by decide +kernel
theorem zd_MPainter_sample_22 : decode zb_MPainter_sample 22 = .ok (.lload 8, 2) := by decide +kernel
theorem zd_MPainter_sample_24 : decode zb_MPainter_sample 24 = .ok (.lmul, 1) := by decide +kernel
theorem zd_MPainter_sample_25 : decode zb_MPainter_sample 25 = .ok (.lstore 12, 2) := by decide +kernel
theorem zd_MPainter_sample_27 : decode zb_MPainter_sample 27 = .ok (.aload_n 0, 1) := by decide +kernel
theorem zd_MPainter_sample_28 : decode zb_MPainter_sample 28 = .ok (.getfield 129, 3) := by decide +kernel
theorem zd_MPainter_sample_31 : decode zb_MPainter_sample 31 = .ok (.getfield 326, 3) := by decide +kernel
theorem zd_MPainter_sample_34 : decode zb_MPainter_sample 34 = .ok (.iload_n 1, 1) := by decide +kernel
theorem zd_MPainter_sample_35 : decode zb_MPainter_sample 35 = .ok (.iaload, 1) := by decide +kernel
theorem zd_MPainter_sample_36 : decode zb_MPainter_sample 36 = .ok (.ifCond .ne 28, 3) := by decide +kernel
theorem zd_MPainter_sample_39 : decode zb_MPainter_sample 39 = .ok (.aload_n 0, 1) := by decide +kernel
theorem zd_MPainter_sample_40 : decode zb_MPainter_sample 40 = .ok (.iload_n 1, 1) := by decide +kernel
theorem zd_MPainter_sample_41 : decode zb_MPainter_sample 41 = .ok (.iload_n 2, 1) := by decide +kernel
theorem zd_MPainter_sample_42 : decode zb_MPainter_sample 42 = .ok (.lload 10, 2) := by decide +kernel
theorem zd_MPainter_sample_44 : decode zb_MPainter_sample 44 = .ok (.ldc2_w 80, 3) := by decide +kernel
theorem zd_MPainter_sample_47 : decode zb_MPainter_sample 47 = .ok (.invokestatic 103, 3) := by decide +kernel
theorem zd_MPainter_sample_50 : decode zb_MPainter_sample 50 = .ok (.lload 12, 2) := by decide +kernel
theorem zd_MPainter_sample_52 : decode zb_MPainter_sample 52 = .ok (.ldc2_w 80, 3) := by decide +kernel
theorem zd_MPainter_sample_55 : decode zb_MPainter_sample 55 = .ok (.invokestatic 103, 3) := by decide +kernel
theorem zd_MPainter_sample_58 : decode zb_MPainter_sample 58 = .ok (.iload 7, 2) := by decide +kernel
theorem zd_MPainter_sample_60 : decode zb_MPainter_sample 60 = .ok (.invokevirtual 329, 3) := by decide +kernel
theorem zd_MPainter_sample_63 : decode zb_MPainter_sample 63 = .ok (.lreturn, 1) := by decide +kernel
theorem zd_MPainter_sample_64 : decode zb_MPainter_sample 64 = .ok (.lload 10, 2) := by decide +kernel
theorem zd_MPainter_sample_66 : decode zb_MPainter_sample 66 = .ok (.ldc2_w 332, 3) := by decide +kernel
theorem zd_MPainter_sample_69 : decode zb_MPainter_sample 69 = .ok (.lsub, 1) := by decide +kernel
theorem zd_MPainter_sample_70 : decode zb_MPainter_sample 70 = .ok (.lstore 10, 2) := by decide +kernel
theorem zd_MPainter_sample_72 : decode zb_MPainter_sample 72 = .ok (.lload 12, 2) := by decide +kernel
theorem zd_MPainter_sample_74 : decode zb_MPainter_sample 74 = .ok (.ldc2_w 332, 3) := by decide +kernel
theorem zd_MPainter_sample_77 : decode zb_MPainter_sample 77 = .ok (.lsub, 1) := by decide +kernel
theorem zd_MPainter_sample_78 : decode zb_MPainter_sample 78 = .ok (.lstore 12, 2) := by decide +kernel
theorem zd_MPainter_sample_80 : decode zb_MPainter_sample 80 = .ok (.lload 10, 2) := by decide +kernel
theorem zd_MPainter_sample_82 : decode zb_MPainter_sample 82 = .ok (.ldc2_w 80, 3) := by decide +kernel
theorem zd_MPainter_sample_85 : decode zb_MPainter_sample 85 = .ok (.invokestatic 103, 3) := by decide +kernel
theorem zd_MPainter_sample_88 : decode zb_MPainter_sample 88 = .ok (.lstore 14, 2) := by decide +kernel
theorem zd_MPainter_sample_90 : decode zb_MPainter_sample 90 = .ok (.lload 12, 2) := by decide +kernel
theorem zd_MPainter_sample_92 : decode zb_MPainter_sample 92 = .ok (.ldc2_w 80, 3) := by decide +kernel
theorem zd_MPainter_sample_95 : decode zb_MPainter_sample 95 = .ok (.invokestatic 103, 3) := by decide +kernel
theorem zd_MPainter_sample_98 : decode zb_MPainter_sample 98 = .ok (.lstore 16, 2) := by decide +kernel
theorem zd_MPainter_sample_100 : decode zb_MPainter_sample 100 = .ok (.lload 10, 2) := by decide +kernel
theorem zd_MPainter_sample_102 : decode zb_MPainter_sample 102 = .ok (.ldc2_w 80, 3) := by decide +kernel
theorem zd_MPainter_sample_105 : decode zb_MPainter_sample 105 = .ok (.lload 14, 2) := by decide +kernel
theorem zd_MPainter_sample_107 : decode zb_MPainter_sample 107 = .ok (.lmul, 1) := by decide +kernel
theorem zd_MPainter_sample_108 : decode zb_MPainter_sample 108 = .ok (.lsub, 1) := by decide +kernel
theorem zd_MPainter_sample_109 : decode zb_MPainter_sample 109 = .ok (.ldc2_w 334, 3) := by decide +kernel
theorem zd_MPainter_sample_112 : decode zb_MPainter_sample 112 = .ok (.invokestatic 103, 3) := by decide +kernel
theorem zd_MPainter_sample_115 : decode zb_MPainter_sample 115 = .ok (.lstore 18, 2) := by decide +kernel
theorem zd_MPainter_sample_117 : decode zb_MPainter_sample 117 = .ok (.lload 12, 2) := by decide +kernel
theorem zd_MPainter_sample_119 : decode zb_MPainter_sample 119 = .ok (.ldc2_w 80, 3) := by decide +kernel
theorem zd_MPainter_sample_122 : decode zb_MPainter_sample 122 = .ok (.lload 16, 2) := by decide +kernel
theorem zd_MPainter_sample_124 : decode zb_MPainter_sample 124 = .ok (.lmul, 1) := by decide +kernel
theorem zd_MPainter_sample_125 : decode zb_MPainter_sample 125 = .ok (.lsub, 1) := by decide +kernel
theorem zd_MPainter_sample_126 : decode zb_MPainter_sample 126 = .ok (.ldc2_w 334, 3) := by decide +kernel
theorem zd_MPainter_sample_129 : decode zb_MPainter_sample 129 = .ok (.invokestatic 103, 3) := by decide +kernel
theorem zd_MPainter_sample_132 : decode zb_MPainter_sample 132 = .ok (.lstore 20, 2) := by decide +kernel
theorem zd_MPainter_sample_134 : decode zb_MPainter_sample 134 = .ok (.aload_n 0, 1) := by decide +kernel
theorem zd_MPainter_sample_135 : decode zb_MPainter_sample 135 = .ok (.iload_n 1, 1) := by decide +kernel
theorem zd_MPainter_sample_136 : decode zb_MPainter_sample 136 = .ok (.iload_n 2, 1) := by decide +kernel
theorem zd_MPainter_sample_137 : decode zb_MPainter_sample 137 = .ok (.lload 14, 2) := by decide +kernel
theorem zd_MPainter_sample_139 : decode zb_MPainter_sample 139 = .ok (.lload 16, 2) := by decide +kernel
theorem zd_MPainter_sample_141 : decode zb_MPainter_sample 141 = .ok (.iload 7, 2) := by decide +kernel
theorem zd_MPainter_sample_143 : decode zb_MPainter_sample 143 = .ok (.invokevirtual 329, 3) := by decide +kernel
theorem zd_MPainter_sample_146 : decode zb_MPainter_sample 146 = .ok (.ldc2_w 334, 3) := by decide +kernel
theorem zd_MPainter_sample_149 : decode zb_MPainter_sample 149 = .ok (.lload 18, 2) := by decide +kernel
theorem zd_MPainter_sample_151 : decode zb_MPainter_sample 151 = .ok (.lsub, 1) := by decide +kernel
theorem zd_MPainter_sample_152 : decode zb_MPainter_sample 152 = .ok (.lmul, 1) := by decide +kernel
theorem zd_MPainter_sample_153 : decode zb_MPainter_sample 153 = .ok (.ldc2_w 334, 3) := by decide +kernel
theorem zd_MPainter_sample_156 : decode zb_MPainter_sample 156 = .ok (.lload 20, 2) := by decide +kernel
theorem zd_MPainter_sample_158 : decode zb_MPainter_sample 158 = .ok (.lsub, 1) := by decide +kernel
theorem zd_MPainter_sample_159 : decode zb_MPainter_sample 159 = .ok (.lmul, 1) := by decide +kernel
theorem zd_MPainter_sample_160 : decode zb_MPainter_sample 160 = .ok (.aload_n 0, 1) := by decide +kernel
theorem zd_MPainter_sample_161 : decode zb_MPainter_sample 161 = .ok (.iload_n 1, 1) := by decide +kernel
theorem zd_MPainter_sample_162 : decode zb_MPainter_sample 162 = .ok (.iload_n 2, 1) := by decide +kernel
theorem zd_MPainter_sample_163 : decode zb_MPainter_sample 163 = .ok (.lload 14, 2) := by decide +kernel
theorem zd_MPainter_sample_165 : decode zb_MPainter_sample 165 = .ok (.lconst 1, 1) := by decide +kernel
theorem zd_MPainter_sample_166 : decode zb_MPainter_sample 166 = .ok (.ladd, 1) := by decide +kernel
theorem zd_MPainter_sample_167 : decode zb_MPainter_sample 167 = .ok (.lload 16, 2) := by decide +kernel
theorem zd_MPainter_sample_169 : decode zb_MPainter_sample 169 = .ok (.iload 7, 2) := by decide +kernel
theorem zd_MPainter_sample_171 : decode zb_MPainter_sample 171 = .ok (.invokevirtual 329, 3) := by decide +kernel
theorem zd_MPainter_sample_174 : decode zb_MPainter_sample 174 = .ok (.lload 18, 2) := by decide +kernel
theorem zd_MPainter_sample_176 : decode zb_MPainter_sample 176 = .ok (.lmul, 1) := by decide +kernel
theorem zd_MPainter_sample_177 : decode zb_MPainter_sample 177 = .ok (.ldc2_w 334, 3) := by decide +kernel
theorem zd_MPainter_sample_180 : decode zb_MPainter_sample 180 = .ok (.lload 20, 2) := by decide +kernel
theorem zd_MPainter_sample_182 : decode zb_MPainter_sample 182 = .ok (.lsub, 1) := by decide +kernel
theorem zd_MPainter_sample_183 : decode zb_MPainter_sample 183 = .ok (.lmul, 1) := by decide +kernel
theorem zd_MPainter_sample_184 : decode zb_MPainter_sample 184 = .ok (.ladd, 1) := by decide +kernel
theorem zd_MPainter_sample_185 : decode zb_MPainter_sample 185 = .ok (.lstore 22, 2) := by decide +kernel
theorem zd_MPainter_sample_187 : decode zb_MPainter_sample 187 = .ok (.lload 22, 2) := by decide +kernel
theorem zd_MPainter_sample_189 : decode zb_MPainter_sample 189 = .ok (.aload_n 0, 1) := by decide +kernel
theorem zd_MPainter_sample_190 : decode zb_MPainter_sample 190 = .ok (.iload_n 1, 1) := by decide +kernel
theorem zd_MPainter_sample_191 : decode zb_MPainter_sample 191 = .ok (.iload_n 2, 1) := by decide +kernel
theorem zd_MPainter_sample_192 : decode zb_MPainter_sample 192 = .ok (.lload 14, 2) := by decide +kernel
theorem zd_MPainter_sample_194 : decode zb_MPainter_sample 194 = .ok (.lload 16, 2) := by decide +kernel
theorem zd_MPainter_sample_196 : decode zb_MPainter_sample 196 = .ok (.lconst 1, 1) := by decide +kernel
theorem zd_MPainter_sample_197 : decode zb_MPainter_sample 197 = .ok (.ladd, 1) := by decide +kernel
theorem zd_MPainter_sample_198 : decode zb_MPainter_sample 198 = .ok (.iload 7, 2) := by decide +kernel
theorem zd_MPainter_sample_200 : decode zb_MPainter_sample 200 = .ok (.invokevirtual 329, 3) := by decide +kernel
theorem zd_MPainter_sample_203 : decode zb_MPainter_sample 203 = .ok (.ldc2_w 334, 3) := by decide +kernel
theorem zd_MPainter_sample_206 : decode zb_MPainter_sample 206 = .ok (.lload 18, 2) := by decide +kernel
theorem zd_MPainter_sample_208 : decode zb_MPainter_sample 208 = .ok (.lsub, 1) := by decide +kernel
theorem zd_MPainter_sample_209 : decode zb_MPainter_sample 209 = .ok (.lmul, 1) := by decide +kernel
theorem zd_MPainter_sample_210 : decode zb_MPainter_sample 210 = .ok (.lload 20, 2) := by decide +kernel
theorem zd_MPainter_sample_212 : decode zb_MPainter_sample 212 = .ok (.lmul, 1) := by decide +kernel
theorem zd_MPainter_sample_213 : decode zb_MPainter_sample 213 = .ok (.ladd, 1) := by decide +kernel
theorem zd_MPainter_sample_214 : decode zb_MPainter_sample 214 = .ok (.aload_n 0, 1) := by decide +kernel
theorem zd_MPainter_sample_215 : decode zb_MPainter_sample 215 = .ok (.iload_n 1, 1) := by decide +kernel
theorem zd_MPainter_sample_216 : decode zb_MPainter_sample 216 = .ok (.iload_n 2, 1) := by decide +kernel
theorem zd_MPainter_sample_217 : decode zb_MPainter_sample 217 = .ok (.lload 14, 2) := by decide +kernel
theorem zd_MPainter_sample_219 : decode zb_MPainter_sample 219 = .ok (.lconst 1, 1) := by decide +kernel
theorem zd_MPainter_sample_220 : decode zb_MPainter_sample 220 = .ok (.ladd, 1) := by decide +kernel
theorem zd_MPainter_sample_221 : decode zb_MPainter_sample 221 = .ok (.lload 16, 2) := by decide +kernel
theorem zd_MPainter_sample_223 : decode zb_MPainter_sample 223 = .ok (.lconst 1, 1) := by decide +kernel
theorem zd_MPainter_sample_224 : decode zb_MPainter_sample 224 = .ok (.ladd, 1) := by decide +kernel
theorem zd_MPainter_sample_225 : decode zb_MPainter_sample 225 = .ok (.iload 7, 2) := by decide +kernel
theorem zd_MPainter_sample_227 : decode zb_MPainter_sample 227 = .ok (.invokevirtual 329, 3) := by decide +kernel
theorem zd_MPainter_sample_230 : decode zb_MPainter_sample 230 = .ok (.lload 18, 2) := by decide +kernel
theorem zd_MPainter_sample_232 : decode zb_MPainter_sample 232 = .ok (.lmul, 1) := by decide +kernel
theorem zd_MPainter_sample_233 : decode zb_MPainter_sample 233 = .ok (.lload 20, 2) := by decide +kernel
theorem zd_MPainter_sample_235 : decode zb_MPainter_sample 235 = .ok (.lmul, 1) := by decide +kernel
theorem zd_MPainter_sample_236 : decode zb_MPainter_sample 236 = .ok (.ladd, 1) := by decide +kernel
theorem zd_MPainter_sample_237 : decode zb_MPainter_sample 237 = .ok (.ldc2_w 80, 3) := by decide +kernel
theorem zd_MPainter_sample_240 : decode zb_MPainter_sample 240 = .ok (.invokestatic 103, 3) := by decide +kernel
theorem zd_MPainter_sample_243 : decode zb_MPainter_sample 243 = .ok (.lreturn, 1) := by decide +kernel
theorem zw_1339 : (Jvm.Cond.fieldLink "OrreryBoxModel$Painter" (326 : Nat) "OrreryBoxModel$Scene" "soft" "[I") ∈ gw := gw_t 1339 (by decide +kernel) rfl
theorem zw_2152 : (Jvm.Cond.constantLong "OrreryBoxModel$Painter" (332 : Nat) (32768 : Int64)) ∈ gw := gw_t 2152 (by decide +kernel) rfl
theorem zw_2153 : (Jvm.Cond.constantLong "OrreryBoxModel$Painter" (334 : Nat) (256 : Int64)) ∈ gw := gw_t 2153 (by decide +kernel) rfl
theorem zw_2143 : (Jvm.Cond.methodLink "OrreryBoxModel$Painter" (329 : Nat) ({ cls := "OrreryBoxModel$Painter", name := "texel", desc := "(IIJJI)J" } : Jvm.MethodName)) ∈ gw := gw_t 2143 (by decide +kernel) rfl
theorem zw_2145 : (Jvm.Cond.instanceMethod ({ cls := "OrreryBoxModel$Painter", name := "texel", desc := "(IIJJI)J" } : Jvm.MethodName)) ∈ gw := gw_t 2145 (by decide +kernel) rfl
theorem zv_115 : (Jvm.Cond.selects "OrreryBoxModel$Painter" (⟨"OrreryBoxModel$Painter", "texel", "(IIJJI)J"⟩ : MethodName) ⟨"OrreryBoxModel$Painter", "texel", "(IIJJI)J"⟩) ∈ gw := gw_s 115 (by decide +kernel) rfl
theorem zs_MPainter_329 : zwV "OrreryBoxModel$Painter" 329 "OrreryBoxModel$Painter" zy_MPainter_texel zb_MPainter_texel 11 (some .long) := ⟨zw_2143, zw_2145, zv_115, zw_17, zc_MPainter_texel⟩
def F_MPainter_sample (sh : zSh) (mm : zMem) (o : Nat) (x0_ : Int32) (x1_ : Int32) (x2_ : Int64) (x3_ : Int64) (x4_ : Int32) : Option (Int64 × zMem) := zoS (sh o) 13 (fun le2 => Option.bind (mm.2.2 o 5) (fun a3 => zoS (sh a3) 15 (fun le5 => Option.bind (mm.2.2 a3 5) (fun a6 => zoS (sh a6) 100 (fun le8 => if (x0_ : Int32) < 0 ∨ le8 ≤ (x0_ : Int32).toNatClampNeg then none else zoL ((((mm.1 a6 (x0_ : Int32).toNatClampNeg) >>> (x1_ &&& 31)) : Int32).toInt64) (fun x10 => zoL (x2_ * x10) (fun x11 => zoL (x3_ * x10) (fun x12 => zoS (sh o) 13 (fun le14 => Option.bind (mm.2.2 o 5) (fun a15 => zoS (sh a15) 15 (fun le17 => Option.bind (mm.2.2 a15 7) (fun a18 => zoS (sh a18) 100 (fun le20 => if (x0_ : Int32) < 0 ∨ le20 ≤ (x0_ : Int32).toNatClampNeg then none else (if (mm.1 a18 (x0_ : Int32).toNatClampNeg) = 0 then Option.bind (F_MPainter_div sh mm x11 65536) (fun p44 => Option.bind (F_MPainter_div sh (p44.2) x12 65536) (fun p45 => zoS (sh o) 13 (fun le47 => Option.bind (F_MPainter_texel sh (p45.2) o x0_ x1_ (p44.1) (p45.1) x4_) (fun p48 => some (p48.1, p48.2))))) else zoL (x11 - 32768) (fun x23 => zoL (x12 - 32768) (fun x24 => Option.bind (F_MPainter_div sh mm x23 65536) (fun p25 => Option.bind (F_MPainter_div sh (p25.2) x24 65536) (fun p26 => Option.bind (F_MPainter_div sh (p26.2) (x23 - (65536 * p25.1)) 256) (fun p27 => Option.bind (F_MPainter_div sh (p27.2) (x24 - (65536 * p26.1)) 256) (fun p28 => zoS (sh o) 13 (fun le30 => Option.bind (F_MPainter_texel sh (p28.2) o x0_ x1_ (p25.1) (p26.1) x4_) (fun p31 => zoS (sh o) 13 (fun le33 => Option.bind (F_MPainter_texel sh (p31.2) o x0_ x1_ (p25.1 + 1) (p26.1) x4_) (fun p34 => zoL (((p31.1 * (256 - p27.1)) * (256 - p28.1)) + ((p34.1 * p27.1) * (256 - p28.1))) (fun x35 => zoS (sh o) 13 (fun le37 => Option.bind (F_MPainter_texel sh (p34.2) o x0_ x1_ (p25.1) (p26.1 + 1) x4_) (fun p38 => zoS (sh o) 13 (fun le40 => Option.bind (F_MPainter_texel sh (p38.2) o x0_ x1_ (p25.1 + 1) (p26.1 + 1) x4_) (fun p41 => zoL ((x35 + ((p38.1 * (256 - p27.1)) * p28.1)) + ((p41.1 * p27.1) * p28.1)) (fun x42 => Option.bind (F_MPainter_div sh (p41.2) x42 65536) (fun p43 => some (p43.1, p43.2))))))))))))))))))))))))))))))))
set_option maxHeartbeats 4000000 in
set_option maxRecDepth 100000 in
theorem k_MPainter_sample (l : Launch) (D : va_G) (tA : Nat → ClassId) (b : Nat) (sh : zSh) (n : Nat) {mm : zMem} {o : Nat} {x0_ : Int32} {x1_ : Int32} {x2_ : Int64} {x3_ : Int64} {x4_ : Int32} {r : (Int64 × zMem)} (h : F_MPainter_sample sh mm o x0_ x1_ x2_ x3_ x4_ = some r) : zM l D tA b zy_MPainter_sample zb_MPainter_sample 24 (some .long) 3 79 0 0 [.ref (b + o), .int x0_, .int x1_, .long x2_, .long x3_, .int x4_] (zW tA b sh mm) n (zE (some (.long (r.1))) (zW tA b sh r.2) n) := by
  unfold F_MPainter_sample at h
  refine zM_of (own := "OrreryBoxModel$Painter") (plainFor_of_name (by decide)) rfl (Nat.le_of_ble_eq_true rfl) (fun p e s m below meth c F hr hin hH => ?_)
  refine zr_aload_n F zd_MPainter_sample_0 rfl ?_
  obtain ⟨le2, hs1, h⟩ := zoS_s h
  obtain ⟨a3, ea3, h⟩ := zoB_s h
  refine zr_get F 13 5 zd_MPainter_sample_1 (zW_o hs1 (by decide)) rfl (by decide) zw_1581 rfl (by rfl) ?_
  refine zr_tor ea3 ?_
  obtain ⟨le5, hs4, h⟩ := zoS_s h
  obtain ⟨a6, ea6, h⟩ := zoB_s h
  refine zr_get F 15 5 zd_MPainter_sample_4 (zW_o hs4 (by decide)) rfl (by decide) zw_1333 rfl (by rfl) ?_
  refine zr_tor ea6 ?_
  refine zr_iload_n F zd_MPainter_sample_7 rfl ?_
  obtain ⟨le8, hs7, h⟩ := zoS_s h
  obtain ⟨hi9, h⟩ := zoI_s h
  refine zr_iald F zd_MPainter_sample_8 (zW_a0 hs7) hi9 ?_
  refine zr_iload_n F zd_MPainter_sample_9 rfl ?_
  refine zr_ishr F zd_MPainter_sample_10 ?_
  refine zr_pcn 11 rfl ?_
  refine zr_i2l F zd_MPainter_sample_11 ?_
  obtain ⟨x10, ex10, h⟩ := zoL_s h
  rw [← ex10]
  refine zr_lstore F zd_MPainter_sample_12 (by decide) ?_
  refine zr_lload_n F zd_MPainter_sample_14 rfl ?_
  refine zr_lload F zd_MPainter_sample_15 rfl ?_
  refine zr_lmul F zd_MPainter_sample_17 ?_
  obtain ⟨x11, ex11, h⟩ := zoL_s h
  rw [← ex11]
  refine zr_lstore F zd_MPainter_sample_18 (by decide) ?_
  refine zr_lload F zd_MPainter_sample_20 rfl ?_
  refine zr_lload F zd_MPainter_sample_22 rfl ?_
  refine zr_pcn 24 rfl ?_
  refine zr_lmul F zd_MPainter_sample_24 ?_
  obtain ⟨x12, ex12, h⟩ := zoL_s h
  rw [← ex12]
  refine zr_lstore F zd_MPainter_sample_25 (by decide) ?_
  refine zr_aload_n F zd_MPainter_sample_27 rfl ?_
  obtain ⟨le14, hs13, h⟩ := zoS_s h
  obtain ⟨a15, ea15, h⟩ := zoB_s h
  refine zr_get F 13 5 zd_MPainter_sample_28 (zW_o hs13 (by decide)) rfl (by decide) zw_1581 rfl (by rfl) ?_
  refine zr_tor ea15 ?_
  obtain ⟨le17, hs16, h⟩ := zoS_s h
  obtain ⟨a18, ea18, h⟩ := zoB_s h
  refine zr_get F 15 7 zd_MPainter_sample_31 (zW_o hs16 (by decide)) rfl (by decide) zw_1339 rfl (by rfl) ?_
  refine zr_tor ea18 ?_
  refine zr_iload_n F zd_MPainter_sample_34 rfl ?_
  obtain ⟨le20, hs19, h⟩ := zoS_s h
  obtain ⟨hi21, h⟩ := zoI_s h
  refine zr_iald F zd_MPainter_sample_35 (zW_a0 hs19) hi21 ?_
  refine zr_if_ne F 64 zd_MPainter_sample_36 (by decide) (fun hb22 => ?_) (fun hb22 => ?_)
  ·
    rw [if_neg hb22] at h
    refine zr_pcn 64 rfl ?_
    refine zr_lload F zd_MPainter_sample_64 rfl ?_
    refine zr_ldc2 F zd_MPainter_sample_66 zw_2152 ?_
    refine zr_lsub F zd_MPainter_sample_69 ?_
    obtain ⟨x23, ex23, h⟩ := zoL_s h
    rw [← ex23]
    refine zr_lstore F zd_MPainter_sample_70 (by decide) ?_
    refine zr_lload F zd_MPainter_sample_72 rfl ?_
    refine zr_ldc2 F zd_MPainter_sample_74 zw_2152 ?_
    refine zr_lsub F zd_MPainter_sample_77 ?_
    obtain ⟨x24, ex24, h⟩ := zoL_s h
    rw [← ex24]
    refine zr_lstore F zd_MPainter_sample_78 (by decide) ?_
    refine zr_pcn 80 rfl ?_
    refine zr_lload F zd_MPainter_sample_80 rfl ?_
    refine zr_ldc2 F zd_MPainter_sample_82 zw_1952 ?_
    obtain ⟨p25, ep25, h⟩ := zoB_s h
    refine zr_callS1 F (k_MPainter_div l D tA b sh _ ep25) zd_MPainter_sample_85 zs_MPainter_103 zq_MPainter_div rfl rfl ⟨(Nat.le_of_ble_eq_true rfl), (Nat.le_of_ble_eq_true rfl)⟩ (Nat.le_of_ble_eq_true rfl) ⟨(Nat.le_of_ble_eq_true rfl), (Nat.le_of_ble_eq_true rfl)⟩ ?_
    refine zr_lstore F zd_MPainter_sample_88 (by decide) ?_
    refine zr_lload F zd_MPainter_sample_90 rfl ?_
    refine zr_ldc2 F zd_MPainter_sample_92 zw_1952 ?_
    obtain ⟨p26, ep26, h⟩ := zoB_s h
    refine zr_callS1 F (k_MPainter_div l D tA b sh _ ep26) zd_MPainter_sample_95 zs_MPainter_103 zq_MPainter_div rfl rfl ⟨(Nat.le_of_ble_eq_true rfl), (Nat.le_of_ble_eq_true rfl)⟩ (Nat.le_of_ble_eq_true rfl) ⟨(Nat.le_of_ble_eq_true rfl), (Nat.le_of_ble_eq_true rfl)⟩ ?_
    refine zr_lstore F zd_MPainter_sample_98 (by decide) ?_
    refine zr_pcn 100 rfl ?_
    refine zr_lload F zd_MPainter_sample_100 rfl ?_
    refine zr_ldc2 F zd_MPainter_sample_102 zw_1952 ?_
    refine zr_lload F zd_MPainter_sample_105 rfl ?_
    refine zr_lmul F zd_MPainter_sample_107 ?_
    refine zr_lsub F zd_MPainter_sample_108 ?_
    refine zr_ldc2 F zd_MPainter_sample_109 zw_2153 ?_
    obtain ⟨p27, ep27, h⟩ := zoB_s h
    refine zr_callS1 F (k_MPainter_div l D tA b sh _ ep27) zd_MPainter_sample_112 zs_MPainter_103 zq_MPainter_div rfl rfl ⟨(Nat.le_of_ble_eq_true rfl), (Nat.le_of_ble_eq_true rfl)⟩ (Nat.le_of_ble_eq_true rfl) ⟨(Nat.le_of_ble_eq_true rfl), (Nat.le_of_ble_eq_true rfl)⟩ ?_
    refine zr_lstore F zd_MPainter_sample_115 (by decide) ?_
    refine zr_pcn 117 rfl ?_
    refine zr_lload F zd_MPainter_sample_117 rfl ?_
    refine zr_ldc2 F zd_MPainter_sample_119 zw_1952 ?_
    refine zr_lload F zd_MPainter_sample_122 rfl ?_
    refine zr_lmul F zd_MPainter_sample_124 ?_
    refine zr_lsub F zd_MPainter_sample_125 ?_
    refine zr_ldc2 F zd_MPainter_sample_126 zw_2153 ?_
    obtain ⟨p28, ep28, h⟩ := zoB_s h
    refine zr_callS1 F (k_MPainter_div l D tA b sh _ ep28) zd_MPainter_sample_129 zs_MPainter_103 zq_MPainter_div rfl rfl ⟨(Nat.le_of_ble_eq_true rfl), (Nat.le_of_ble_eq_true rfl)⟩ (Nat.le_of_ble_eq_true rfl) ⟨(Nat.le_of_ble_eq_true rfl), (Nat.le_of_ble_eq_true rfl)⟩ ?_
    refine zr_lstore F zd_MPainter_sample_132 (by decide) ?_
    refine zr_pcn 134 rfl ?_
    refine zr_aload_n F zd_MPainter_sample_134 rfl ?_
    refine zr_iload_n F zd_MPainter_sample_135 rfl ?_
    refine zr_iload_n F zd_MPainter_sample_136 rfl ?_
    refine zr_lload F zd_MPainter_sample_137 rfl ?_
    refine zr_lload F zd_MPainter_sample_139 rfl ?_
    refine zr_iload F zd_MPainter_sample_141 rfl ?_
    obtain ⟨le30, hs29, h⟩ := zoS_s h
    obtain ⟨p31, ep31, h⟩ := zoB_s h
    refine zr_callV1 F (k_MPainter_texel l D tA b sh _ ep31) zd_MPainter_sample_143 (zW_o hs29 (by decide)) rfl zs_MPainter_329 rfl zq_MPainter_texel rfl rfl ⟨(Nat.le_of_ble_eq_true rfl), (Nat.le_of_ble_eq_true rfl)⟩ (Nat.le_of_ble_eq_true rfl) ⟨(Nat.le_of_ble_eq_true rfl), (Nat.le_of_ble_eq_true rfl)⟩ ?_
    refine zr_ldc2 F zd_MPainter_sample_146 zw_2153 ?_
    refine zr_pcn 149 rfl ?_
    refine zr_lload F zd_MPainter_sample_149 rfl ?_
    refine zr_lsub F zd_MPainter_sample_151 ?_
    refine zr_lmul F zd_MPainter_sample_152 ?_
    refine zr_ldc2 F zd_MPainter_sample_153 zw_2153 ?_
    refine zr_lload F zd_MPainter_sample_156 rfl ?_
    refine zr_lsub F zd_MPainter_sample_158 ?_
    refine zr_lmul F zd_MPainter_sample_159 ?_
    refine zr_aload_n F zd_MPainter_sample_160 rfl ?_
    refine zr_pcn 161 rfl ?_
    refine zr_iload_n F zd_MPainter_sample_161 rfl ?_
    refine zr_iload_n F zd_MPainter_sample_162 rfl ?_
    refine zr_lload F zd_MPainter_sample_163 rfl ?_
    refine zr_lconstv (v := 1) F zd_MPainter_sample_165 (by decide) ?_
    refine zr_ladd F zd_MPainter_sample_166 ?_
    refine zr_lload F zd_MPainter_sample_167 rfl ?_
    refine zr_iload F zd_MPainter_sample_169 rfl ?_
    obtain ⟨le33, hs32, h⟩ := zoS_s h
    obtain ⟨p34, ep34, h⟩ := zoB_s h
    refine zr_callV1 F (k_MPainter_texel l D tA b sh _ ep34) zd_MPainter_sample_171 (zW_o hs32 (by decide)) rfl zs_MPainter_329 rfl zq_MPainter_texel rfl rfl ⟨(Nat.le_of_ble_eq_true rfl), (Nat.le_of_ble_eq_true rfl)⟩ (Nat.le_of_ble_eq_true rfl) ⟨(Nat.le_of_ble_eq_true rfl), (Nat.le_of_ble_eq_true rfl)⟩ ?_
    refine zr_pcn 174 rfl ?_
    refine zr_lload F zd_MPainter_sample_174 rfl ?_
    refine zr_lmul F zd_MPainter_sample_176 ?_
    refine zr_ldc2 F zd_MPainter_sample_177 zw_2153 ?_
    refine zr_lload F zd_MPainter_sample_180 rfl ?_
    refine zr_lsub F zd_MPainter_sample_182 ?_
    refine zr_lmul F zd_MPainter_sample_183 ?_
    refine zr_ladd F zd_MPainter_sample_184 ?_
    obtain ⟨x35, ex35, h⟩ := zoL_s h
    rw [← ex35]
    refine zr_lstore F zd_MPainter_sample_185 (by decide) ?_
    refine zr_pcn 187 rfl ?_
    refine zr_lload F zd_MPainter_sample_187 rfl ?_
    refine zr_aload_n F zd_MPainter_sample_189 rfl ?_
    refine zr_iload_n F zd_MPainter_sample_190 rfl ?_
    refine zr_iload_n F zd_MPainter_sample_191 rfl ?_
    refine zr_lload F zd_MPainter_sample_192 rfl ?_
    refine zr_lload F zd_MPainter_sample_194 rfl ?_
    refine zr_lconstv (v := 1) F zd_MPainter_sample_196 (by decide) ?_
    refine zr_ladd F zd_MPainter_sample_197 ?_
    refine zr_pcn 198 rfl ?_
    refine zr_iload F zd_MPainter_sample_198 rfl ?_
    obtain ⟨le37, hs36, h⟩ := zoS_s h
    obtain ⟨p38, ep38, h⟩ := zoB_s h
    refine zr_callV1 F (k_MPainter_texel l D tA b sh _ ep38) zd_MPainter_sample_200 (zW_o hs36 (by decide)) rfl zs_MPainter_329 rfl zq_MPainter_texel rfl rfl ⟨(Nat.le_of_ble_eq_true rfl), (Nat.le_of_ble_eq_true rfl)⟩ (Nat.le_of_ble_eq_true rfl) ⟨(Nat.le_of_ble_eq_true rfl), (Nat.le_of_ble_eq_true rfl)⟩ ?_
    refine zr_ldc2 F zd_MPainter_sample_203 zw_2153 ?_
    refine zr_lload F zd_MPainter_sample_206 rfl ?_
    refine zr_lsub F zd_MPainter_sample_208 ?_
    refine zr_lmul F zd_MPainter_sample_209 ?_
    refine zr_lload F zd_MPainter_sample_210 rfl ?_
    refine zr_lmul F zd_MPainter_sample_212 ?_
    refine zr_pcn 213 rfl ?_
    refine zr_ladd F zd_MPainter_sample_213 ?_
    refine zr_aload_n F zd_MPainter_sample_214 rfl ?_
    refine zr_iload_n F zd_MPainter_sample_215 rfl ?_
    refine zr_iload_n F zd_MPainter_sample_216 rfl ?_
    refine zr_lload F zd_MPainter_sample_217 rfl ?_
    refine zr_lconstv (v := 1) F zd_MPainter_sample_219 (by decide) ?_
    refine zr_ladd F zd_MPainter_sample_220 ?_
    refine zr_lload F zd_MPainter_sample_221 rfl ?_
    refine zr_pcn 223 rfl ?_
    refine zr_lconstv (v := 1) F zd_MPainter_sample_223 (by decide) ?_
    refine zr_ladd F zd_MPainter_sample_224 ?_
    refine zr_iload F zd_MPainter_sample_225 rfl ?_
    obtain ⟨le40, hs39, h⟩ := zoS_s h
    obtain ⟨p41, ep41, h⟩ := zoB_s h
    refine zr_callV1 F (k_MPainter_texel l D tA b sh _ ep41) zd_MPainter_sample_227 (zW_o hs39 (by decide)) rfl zs_MPainter_329 rfl zq_MPainter_texel rfl rfl ⟨(Nat.le_of_ble_eq_true rfl), (Nat.le_of_ble_eq_true rfl)⟩ (Nat.le_of_ble_eq_true rfl) ⟨(Nat.le_of_ble_eq_true rfl), (Nat.le_of_ble_eq_true rfl)⟩ ?_
    refine zr_lload F zd_MPainter_sample_230 rfl ?_
    refine zr_lmul F zd_MPainter_sample_232 ?_
    refine zr_lload F zd_MPainter_sample_233 rfl ?_
    refine zr_lmul F zd_MPainter_sample_235 ?_
    refine zr_pcn 236 rfl ?_
    refine zr_ladd F zd_MPainter_sample_236 ?_
    refine zr_ldc2 F zd_MPainter_sample_237 zw_1952 ?_
    obtain ⟨x42, ex42, h⟩ := zoL_s h
    rw [← ex42]
    obtain ⟨p43, ep43, h⟩ := zoB_s h
    refine zr_callS1 F (k_MPainter_div l D tA b sh _ ep43) zd_MPainter_sample_240 zs_MPainter_103 zq_MPainter_div rfl rfl ⟨(Nat.le_of_ble_eq_true rfl), (Nat.le_of_ble_eq_true rfl)⟩ (Nat.le_of_ble_eq_true rfl) ⟨(Nat.le_of_ble_eq_true rfl), (Nat.le_of_ble_eq_true rfl)⟩ ?_
    obtain rfl := Option.some.inj h
    exact zr_lret F hr zd_MPainter_sample_243 (Nat.le_of_ble_eq_true rfl) (Nat.le_of_ble_eq_true rfl) ⟨rfl, rfl, rfl⟩
  ·
    rw [if_pos hb22] at h
    refine zr_aload_n F zd_MPainter_sample_39 rfl ?_
    refine zr_iload_n F zd_MPainter_sample_40 rfl ?_
    refine zr_iload_n F zd_MPainter_sample_41 rfl ?_
    refine zr_lload F zd_MPainter_sample_42 rfl ?_
    refine zr_pcn 44 rfl ?_
    refine zr_ldc2 F zd_MPainter_sample_44 zw_1952 ?_
    obtain ⟨p44, ep44, h⟩ := zoB_s h
    refine zr_callS1 F (k_MPainter_div l D tA b sh _ ep44) zd_MPainter_sample_47 zs_MPainter_103 zq_MPainter_div rfl rfl ⟨(Nat.le_of_ble_eq_true rfl), (Nat.le_of_ble_eq_true rfl)⟩ (Nat.le_of_ble_eq_true rfl) ⟨(Nat.le_of_ble_eq_true rfl), (Nat.le_of_ble_eq_true rfl)⟩ ?_
    refine zr_lload F zd_MPainter_sample_50 rfl ?_
    refine zr_ldc2 F zd_MPainter_sample_52 zw_1952 ?_
    obtain ⟨p45, ep45, h⟩ := zoB_s h
    refine zr_callS1 F (k_MPainter_div l D tA b sh _ ep45) zd_MPainter_sample_55 zs_MPainter_103 zq_MPainter_div rfl rfl ⟨(Nat.le_of_ble_eq_true rfl), (Nat.le_of_ble_eq_true rfl)⟩ (Nat.le_of_ble_eq_true rfl) ⟨(Nat.le_of_ble_eq_true rfl), (Nat.le_of_ble_eq_true rfl)⟩ ?_
    refine zr_iload F zd_MPainter_sample_58 rfl ?_
    obtain ⟨le47, hs46, h⟩ := zoS_s h
    obtain ⟨p48, ep48, h⟩ := zoB_s h
    refine zr_callV1 F (k_MPainter_texel l D tA b sh _ ep48) zd_MPainter_sample_60 (zW_o hs46 (by decide)) rfl zs_MPainter_329 rfl zq_MPainter_texel rfl rfl ⟨(Nat.le_of_ble_eq_true rfl), (Nat.le_of_ble_eq_true rfl)⟩ (Nat.le_of_ble_eq_true rfl) ⟨(Nat.le_of_ble_eq_true rfl), (Nat.le_of_ble_eq_true rfl)⟩ ?_
    obtain rfl := Option.some.inj h
    exact zr_lret F hr zd_MPainter_sample_63 (Nat.le_of_ble_eq_true rfl) (Nat.le_of_ble_eq_true rfl) ⟨rfl, rfl, rfl⟩
abbrev zb_MPainter_colour : ByteArray := prog_16_method_34_code
def zy_MPainter_colour : MethodName := ⟨"OrreryBoxModel$Painter", "colour", "(IIIJJJJ)V"⟩
theorem zc_MPainter_colour : Cond.code zy_MPainter_colour zb_MPainter_colour 17 none ∈ gw := gw_t 2133 (by decide +kernel) rfl
theorem zq_MPainter_colour : zy_MPainter_colour.cls ≠ "java/lang/invoke/MethodHandle" ∧ zy_MPainter_colour.cls ≠ "java/lang/invoke/VarHandle" ∧ (parseMethodDescriptor zy_MPainter_colour.desc).map (fun d => d.parameters.length) = some 7 := by decide +kernel
theorem zd_MPainter_colour_0 : decode zb_MPainter_colour 0 = .ok (.aload_n 0, 1) := by decide +kernel
theorem zd_MPainter_colour_1 : decode zb_MPainter_colour 1 = .ok (.getfield 129, 3) := by decide +kernel
theorem zd_MPainter_colour_4 : decode zb_MPainter_colour 4 = .ok (.getfield 336, 3) := by decide +kernel
theorem zd_MPainter_colour_7 : decode zb_MPainter_colour 7 = .ok (.iload_n 1, 1) := by decide +kernel
theorem zd_MPainter_colour_8 : decode zb_MPainter_colour 8 = .ok (.iaload, 1) := by decide +kernel
theorem zd_MPainter_colour_9 : decode zb_MPainter_colour 9 = .ok (.istore 12, 2) := by decide +kernel
theorem zd_MPainter_colour_11 : decode zb_MPainter_colour 11 = .ok (.iload 12, 2) := by decide +kernel
theorem zd_MPainter_colour_13 : decode zb_MPainter_colour 13 = .ok (.ifCond .ge 7, 3) := by decide +kernel
theorem zd_MPainter_colour_16 : decode zb_MPainter_colour 16 = .ok (.iconst 0, 1) := by decide +kernel
theorem zd_MPainter_colour_17 : decode zb_MPainter_colour 17 = .ok (.goto 13, 3) := by decide +kernel
theorem zd_MPainter_colour_20 : decode zb_MPainter_colour 20 = .ok (.aload_n 0, 1) := by decide +kernel
theorem zd_MPainter_colour_21 : decode zb_MPainter_colour 21 = .ok (.iload 12, 2) := by decide +kernel
theorem zd_MPainter_colour_23 : decode zb_MPainter_colour 23 = .ok (.iload_n 2, 1) := by decide +kernel
theorem zd_MPainter_colour_24 : decode zb_MPainter_colour 24 = .ok (.iload_n 3, 1) := by decide +kernel
theorem zd_MPainter_colour_25 : decode zb_MPainter_colour 25 = .ok (.lload 4, 2) := by decide +kernel
theorem zd_MPainter_colour_27 : decode zb_MPainter_colour 27 = .ok (.invokevirtual 339, 3) := by decide +kernel
theorem zd_MPainter_colour_30 : decode zb_MPainter_colour 30 = .ok (.istore 13, 2) := by decide +kernel
theorem zd_MPainter_colour_32 : decode zb_MPainter_colour 32 = .ok (.iconst 0, 1) := by decide +kernel
theorem zd_MPainter_colour_33 : decode zb_MPainter_colour 33 = .ok (.istore 14, 2) := by decide +kernel
theorem zd_MPainter_colour_35 : decode zb_MPainter_colour 35 = .ok (.iload 14, 2) := by decide +kernel
theorem zd_MPainter_colour_37 : decode zb_MPainter_colour 37 = .ok (.iconst 3, 1) := by decide +kernel
theorem zd_MPainter_colour_38 : decode zb_MPainter_colour 38 = .ok (.if_icmp .ge 76, 3) := by decide +kernel
theorem zd_MPainter_colour_41 : decode zb_MPainter_colour 41 = .ok (.iload 12, 2) := by decide +kernel
theorem zd_MPainter_colour_43 : decode zb_MPainter_colour 43 = .ok (.ifCond .ge 9, 3) := by decide +kernel
theorem zd_MPainter_colour_46 : decode zb_MPainter_colour 46 = .ok (.ldc2_w 306, 3) := by decide +kernel
theorem zd_MPainter_colour_49 : decode zb_MPainter_colour 49 = .ok (.goto 17, 3) := by decide +kernel
theorem zd_MPainter_colour_52 : decode zb_MPainter_colour 52 = .ok (.aload_n 0, 1) := by decide +kernel
theorem zd_MPainter_colour_53 : decode zb_MPainter_colour 53 = .ok (.iload 12, 2) := by decide +kernel
theorem zd_MPainter_colour_55 : decode zb_MPainter_colour 55 = .ok (.iload 13, 2) := by decide +kernel
theorem zd_MPainter_colour_57 : decode zb_MPainter_colour 57 = .ok (.lload 6, 2) := by decide +kernel
theorem zd_MPainter_colour_59 : decode zb_MPainter_colour 59 = .ok (.lload 8, 2) := by decide +kernel
theorem zd_MPainter_colour_61 : decode zb_MPainter_colour 61 = .ok (.iload 14, 2) := by decide +kernel
theorem zd_MPainter_colour_63 : decode zb_MPainter_colour 63 = .ok (.invokevirtual 343, 3) := by decide +kernel
theorem zd_MPainter_colour_66 : decode zb_MPainter_colour 66 = .ok (.lstore 15, 2) := by decide +kernel
theorem zd_MPainter_colour_68 : decode zb_MPainter_colour 68 = .ok (.aload_n 0, 1) := by decide +kernel
theorem zd_MPainter_colour_69 : decode zb_MPainter_colour 69 = .ok (.getfield 58, 3) := by decide +kernel
theorem zd_MPainter_colour_72 : decode zb_MPainter_colour 72 = .ok (.iload 14, 2) := by decide +kernel
theorem zd_MPainter_colour_74 : decode zb_MPainter_colour 74 = .ok (.lload 15, 2) := by decide +kernel
theorem zd_MPainter_colour_76 : decode zb_MPainter_colour 76 = .ok (.aload_n 0, 1) := by decide +kernel
theorem zd_MPainter_colour_77 : decode zb_MPainter_colour 77 = .ok (.getfield 129, 3) := by decide +kernel
theorem zd_MPainter_colour_80 : decode zb_MPainter_colour 80 = .ok (.getfield 177, 3) := by decide +kernel
theorem zd_MPainter_colour_83 : decode zb_MPainter_colour 83 = .ok (.iconst 4, 1) := by decide +kernel
theorem zd_MPainter_colour_84 : decode zb_MPainter_colour 84 = .ok (.iload_n 1, 1) := by decide +kernel
theorem zd_MPainter_colour_85 : decode zb_MPainter_colour 85 = .ok (.imul, 1) := by decide +kernel
theorem zd_MPainter_colour_86 : decode zb_MPainter_colour 86 = .ok (.iload 14, 2) := by decide +kernel
theorem zd_MPainter_colour_88 : decode zb_MPainter_colour 88 = .ok (.iadd, 1) := by decide +kernel
theorem zd_MPainter_colour_89 : decode zb_MPainter_colour 89 = .ok (.iaload, 1) := by decide +kernel
theorem zd_MPainter_colour_90 : decode zb_MPainter_colour 90 = .ok (.i2l, 1) := by decide +kernel
theorem zd_MPainter_colour_91 : decode zb_MPainter_colour 91 = .ok (.lmul, 1) := by decide +kernel
theorem zd_MPainter_colour_92 : decode zb_MPainter_colour 92 = .ok (.ldc2_w 306, 3) := by decide +kernel
theorem zd_MPainter_colour_95 : decode zb_MPainter_colour 95 = .ok (.invokestatic 103, 3) := by decide +kernel
theorem zd_MPainter_colour_98 : decode zb_MPainter_colour 98 = .ok (.lload 10, 2) := by decide +kernel
theorem zd_MPainter_colour_100 : decode zb_MPainter_colour 100 = .ok (.lmul, 1) := by decide +kernel
theorem zd_MPainter_colour_101 : decode zb_MPainter_colour 101 = .ok (.ldc2_w 80, 3) := by decide +kernel
theorem zd_MPainter_colour_104 : decode zb_MPainter_colour 104 = .ok (.invokestatic 103, 3) := by decide +kernel
theorem zd_MPainter_colour_107 : decode zb_MPainter_colour 107 = .ok (.lastore, 1) := by decide +kernel
theorem zd_MPainter_colour_108 : decode zb_MPainter_colour 108 = .ok (.iinc 14 1, 3) := by decide +kernel
theorem zd_MPainter_colour_111 : decode zb_MPainter_colour 111 = .ok (.goto (-76), 3) := by decide +kernel
theorem zd_MPainter_colour_114 : decode zb_MPainter_colour 114 = .ok (.return_, 1) := by decide +kernel
theorem zw_1348 : (Jvm.Cond.fieldLink "OrreryBoxModel$Painter" (336 : Nat) "OrreryBoxModel$Scene" "texture" "[I") ∈ gw := gw_t 1348 (by decide +kernel) rfl
theorem zw_2134 : (Jvm.Cond.methodLink "OrreryBoxModel$Painter" (339 : Nat) ({ cls := "OrreryBoxModel$Painter", name := "level", desc := "(IIIJ)I" } : Jvm.MethodName)) ∈ gw := gw_t 2134 (by decide +kernel) rfl
theorem zw_2136 : (Jvm.Cond.instanceMethod ({ cls := "OrreryBoxModel$Painter", name := "level", desc := "(IIIJ)I" } : Jvm.MethodName)) ∈ gw := gw_t 2136 (by decide +kernel) rfl
theorem zv_113 : (Jvm.Cond.selects "OrreryBoxModel$Painter" (⟨"OrreryBoxModel$Painter", "level", "(IIIJ)I"⟩ : MethodName) ⟨"OrreryBoxModel$Painter", "level", "(IIIJ)I"⟩) ∈ gw := gw_s 113 (by decide +kernel) rfl
theorem zs_MPainter_339 : zwV "OrreryBoxModel$Painter" 339 "OrreryBoxModel$Painter" zy_MPainter_level zb_MPainter_level 20 (some .int) := ⟨zw_2134, zw_2136, zv_113, zw_17, zc_MPainter_level⟩
theorem zw_2139 : (Jvm.Cond.methodLink "OrreryBoxModel$Painter" (343 : Nat) ({ cls := "OrreryBoxModel$Painter", name := "sample", desc := "(IIJJI)J" } : Jvm.MethodName)) ∈ gw := gw_t 2139 (by decide +kernel) rfl
theorem zw_2141 : (Jvm.Cond.instanceMethod ({ cls := "OrreryBoxModel$Painter", name := "sample", desc := "(IIJJI)J" } : Jvm.MethodName)) ∈ gw := gw_t 2141 (by decide +kernel) rfl
theorem zv_114 : (Jvm.Cond.selects "OrreryBoxModel$Painter" (⟨"OrreryBoxModel$Painter", "sample", "(IIJJI)J"⟩ : MethodName) ⟨"OrreryBoxModel$Painter", "sample", "(IIJJI)J"⟩) ∈ gw := gw_s 114 (by decide +kernel) rfl
theorem zs_MPainter_343 : zwV "OrreryBoxModel$Painter" 343 "OrreryBoxModel$Painter" zy_MPainter_sample zb_MPainter_sample 24 (some .long) := ⟨zw_2139, zw_2141, zv_114, zw_17, zc_MPainter_sample⟩
theorem zw_2138 : (Jvm.Cond.constantLong "OrreryBoxModel$Painter" (306 : Nat) (255 : Int64)) ∈ gw := gw_t 2138 (by decide +kernel) rfl
def L_MPainter_colour_35 (sh : zSh) (fuel : Nat) (v0 : Nat) (v1 : Int32) (v6 : Int64) (v8 : Int64) (v10 : Int64) (v12 : Int32) (v13 : Int32) (v14 : Int32) (mm : zMem) : Option (Nat × Int32 × Int64 × Int64 × Int64 × Int32 × Int32 × Int32 × zMem) := match fuel with
  | 0 => none
  | fu + 1 => (if 3 ≤ v14 then some (v0, v1, v6, v8, v10, v12, v13, v14, mm) else (if 0 ≤ v12 then zoS (sh v0) 13 (fun le18 => Option.bind (F_MPainter_sample sh mm v0 v12 v13 v6 v8 v14) (fun p19 => zoS (sh v0) 13 (fun le21 => Option.bind ((p19.2).2.2 v0 30) (fun a22 => zoS (sh v0) 13 (fun le24 => Option.bind ((p19.2).2.2 v0 5) (fun a25 => zoS (sh a25) 15 (fun le27 => Option.bind ((p19.2).2.2 a25 9) (fun a28 => zoL ((4 * v1) + v14) (fun i29 => zoS (sh a28) 100 (fun le31 => if (i29 : Int32) < 0 ∨ le31 ≤ (i29 : Int32).toNatClampNeg then none else zoL (p19.1 * ((((p19.2).1 a28 (i29 : Int32).toNatClampNeg) : Int32).toInt64)) (fun x33 => Option.bind (F_MPainter_div sh (p19.2) x33 255) (fun p34 => Option.bind (F_MPainter_div sh (p34.2) (p34.1 * v10) 65536) (fun p35 => zoS (sh a22) 102 (fun le37 => if (v14 : Int32) < 0 ∨ le37 ≤ (v14 : Int32).toNatClampNeg then none else zoL (mL (p35.2) a22 (v14 : Int32).toNatClampNeg (p35.1)) (fun mm39 => L_MPainter_colour_35 sh fu v0 v1 v6 v8 v10 v12 v13 (v14 + 1) mm39))))))))))))))) else zoS (sh v0) 13 (fun le41 => Option.bind (mm.2.2 v0 30) (fun a42 => zoS (sh v0) 13 (fun le44 => Option.bind (mm.2.2 v0 5) (fun a45 => zoS (sh a45) 15 (fun le47 => Option.bind (mm.2.2 a45 9) (fun a48 => zoL ((4 * v1) + v14) (fun i49 => zoS (sh a48) 100 (fun le51 => if (i49 : Int32) < 0 ∨ le51 ≤ (i49 : Int32).toNatClampNeg then none else zoL (255 * (((mm.1 a48 (i49 : Int32).toNatClampNeg) : Int32).toInt64)) (fun x53 => Option.bind (F_MPainter_div sh mm x53 255) (fun p54 => Option.bind (F_MPainter_div sh (p54.2) (p54.1 * v10) 65536) (fun p55 => zoS (sh a42) 102 (fun le57 => if (v14 : Int32) < 0 ∨ le57 ≤ (v14 : Int32).toNatClampNeg then none else zoL (mL (p55.2) a42 (v14 : Int32).toNatClampNeg (p55.1)) (fun mm59 => L_MPainter_colour_35 sh fu v0 v1 v6 v8 v10 v12 v13 (v14 + 1) mm59)))))))))))))))
set_option maxHeartbeats 4000000 in
set_option maxRecDepth 100000 in
theorem lp_MPainter_colour_35 {p : Program} {l : Launch} {e : Env} {s : State} {m : MethodId} {args : Array Value} {below : List Frame} {meth : Method} {c : Code} {D : va_G} {tA : Nat → ClassId} {b n : Nat} {post : Option Value → zV → Nat → Prop} {sh : zSh} (F : zF p s m args meth c zb_MPainter_colour 17 "OrreryBoxModel$Painter" D tA b) : ∀ (fuel : Nat) (v0 : Nat) (v1 : Int32) (v6 : Int64) (v8 : Int64) (v10 : Int64) (v12 : Int32) (v13 : Int32) (v14 : Int32) (mm : zMem) (r : Nat × Int32 × Int64 × Int64 × Int64 × Int32 × Int32 × Int32 × zMem), L_MPainter_colour_35 sh fuel v0 v1 v6 v8 v10 v12 v13 v14 mm = some r → (Z p l e { frames := 4, cells := 0, slots := 0, locals := 122 } s m args below meth c D b 17 (MQ below (zQ D b post) args s 0 0 (fun q => b ≤ q)) (zW tA b sh r.2.2.2.2.2.2.2.2) n 0 0 114 [(0, .ref (b + (r.1))), (1, .int (r.2.1)), (6, .long (r.2.2.1)), (8, .long (r.2.2.2.1)), (10, .long (r.2.2.2.2.1)), (12, .int (r.2.2.2.2.2.1)), (13, .int (r.2.2.2.2.2.2.1)), (14, .int (r.2.2.2.2.2.2.2.1))] []) → Z p l e { frames := 4, cells := 0, slots := 0, locals := 122 } s m args below meth c D b 17 (MQ below (zQ D b post) args s 0 0 (fun q => b ≤ q)) (zW tA b sh mm) n 0 0 35 [(0, .ref (b + v0)), (1, .int v1), (6, .long v6), (8, .long v8), (10, .long v10), (12, .int v12), (13, .int v13), (14, .int v14)] [] := by
  intro fuel
  induction fuel with
  | zero =>
    intro v0 v1 v6 v8 v10 v12 v13 v14 mm r h
    cases h
  | succ fu ih =>
    intro v0 v1 v6 v8 v10 v12 v13 v14 mm r h hx0
    rw [L_MPainter_colour_35] at h
    refine zr_iload F zd_MPainter_colour_35 rfl ?_
    refine zr_iconstv (v := 3) F zd_MPainter_colour_37 (by decide) ?_
    refine zr_icmp_ge F 114 zd_MPainter_colour_38 (by decide) (fun hb15 => ?_) (fun hb15 => ?_)
    ·
      rw [if_pos hb15] at h
      obtain rfl := Option.some.inj h
      refine zr_loc (L' := [(0, .ref (b + v0)), (1, .int v1), (6, .long v6), (8, .long v8), (10, .long v10), (12, .int v12), (13, .int v13), (14, .int v14)]) ⟨rfl, rfl, rfl, rfl, rfl, rfl, rfl, rfl, trivial⟩ ?_
      exact hx0 
    ·
      rw [if_neg hb15] at h
      refine zr_iload F zd_MPainter_colour_41 rfl ?_
      refine zr_if_ge F 52 zd_MPainter_colour_43 (by decide) (fun hb16 => ?_) (fun hb16 => ?_)
      ·
        rw [if_pos hb16] at h
        refine zr_aload_n F zd_MPainter_colour_52 rfl ?_
        refine zr_pcn 53 rfl ?_
        refine zr_iload F zd_MPainter_colour_53 rfl ?_
        refine zr_iload F zd_MPainter_colour_55 rfl ?_
        refine zr_lload F zd_MPainter_colour_57 rfl ?_
        refine zr_lload F zd_MPainter_colour_59 rfl ?_
        refine zr_iload F zd_MPainter_colour_61 rfl ?_
        obtain ⟨le18, hs17, h⟩ := zoS_s h
        obtain ⟨p19, ep19, h⟩ := zoB_s h
        refine zr_callV1 F (k_MPainter_sample l D tA b sh _ ep19) zd_MPainter_colour_63 (zW_o hs17 (by decide)) rfl zs_MPainter_343 rfl zq_MPainter_sample rfl rfl ⟨(Nat.le_of_ble_eq_true rfl), (Nat.le_of_ble_eq_true rfl)⟩ (Nat.le_of_ble_eq_true rfl) ⟨(Nat.le_of_ble_eq_true rfl), (Nat.le_of_ble_eq_true rfl)⟩ ?_
        refine zr_lstore F zd_MPainter_colour_66 (by decide) ?_
        refine zr_aload_n F zd_MPainter_colour_68 rfl ?_
        refine zr_pcn 69 rfl ?_
        obtain ⟨le21, hs20, h⟩ := zoS_s h
        obtain ⟨a22, ea22, h⟩ := zoB_s h
        refine zr_get F 13 30 zd_MPainter_colour_69 (zW_o hs20 (by decide)) rfl (by decide) zw_1610 rfl (by rfl) ?_
        refine zr_tor ea22 ?_
        refine zr_iload F zd_MPainter_colour_72 rfl ?_
        refine zr_lload F zd_MPainter_colour_74 rfl ?_
        refine zr_aload_n F zd_MPainter_colour_76 rfl ?_
        obtain ⟨le24, hs23, h⟩ := zoS_s h
        obtain ⟨a25, ea25, h⟩ := zoB_s h
        refine zr_get F 13 5 zd_MPainter_colour_77 (zW_o hs23 (by decide)) rfl (by decide) zw_1581 rfl (by rfl) ?_
        refine zr_tor ea25 ?_
        obtain ⟨le27, hs26, h⟩ := zoS_s h
        obtain ⟨a28, ea28, h⟩ := zoB_s h
        refine zr_get F 15 9 zd_MPainter_colour_80 (zW_o hs26 (by decide)) rfl (by decide) zw_1345 rfl (by rfl) ?_
        refine zr_tor ea28 ?_
        refine zr_iconstv (v := 4) F zd_MPainter_colour_83 (by decide) ?_
        refine zr_iload_n F zd_MPainter_colour_84 rfl ?_
        refine zr_pcn 85 rfl ?_
        refine zr_imul F zd_MPainter_colour_85 ?_
        refine zr_iload F zd_MPainter_colour_86 rfl ?_
        refine zr_iadd F zd_MPainter_colour_88 ?_
        obtain ⟨i29, ei29, h⟩ := zoL_s h
        rw [← ei29]
        obtain ⟨le31, hs30, h⟩ := zoS_s h
        obtain ⟨hi32, h⟩ := zoI_s h
        refine zr_iald F zd_MPainter_colour_89 (zW_a0 hs30) hi32 ?_
        refine zr_i2l F zd_MPainter_colour_90 ?_
        refine zr_lmul F zd_MPainter_colour_91 ?_
        refine zr_ldc2 F zd_MPainter_colour_92 zw_2138 ?_
        obtain ⟨x33, ex33, h⟩ := zoL_s h
        rw [← ex33]
        obtain ⟨p34, ep34, h⟩ := zoB_s h
        refine zr_callS1 F (k_MPainter_div l D tA b sh _ ep34) zd_MPainter_colour_95 zs_MPainter_103 zq_MPainter_div rfl rfl ⟨(Nat.le_of_ble_eq_true rfl), (Nat.le_of_ble_eq_true rfl)⟩ (Nat.le_of_ble_eq_true rfl) ⟨(Nat.le_of_ble_eq_true rfl), (Nat.le_of_ble_eq_true rfl)⟩ ?_
        refine zr_pcn 98 rfl ?_
        refine zr_lload F zd_MPainter_colour_98 rfl ?_
        refine zr_lmul F zd_MPainter_colour_100 ?_
        refine zr_ldc2 F zd_MPainter_colour_101 zw_1952 ?_
        obtain ⟨p35, ep35, h⟩ := zoB_s h
        refine zr_callS1 F (k_MPainter_div l D tA b sh _ ep35) zd_MPainter_colour_104 zs_MPainter_103 zq_MPainter_div rfl rfl ⟨(Nat.le_of_ble_eq_true rfl), (Nat.le_of_ble_eq_true rfl)⟩ (Nat.le_of_ble_eq_true rfl) ⟨(Nat.le_of_ble_eq_true rfl), (Nat.le_of_ble_eq_true rfl)⟩ ?_
        obtain ⟨le37, hs36, h⟩ := zoS_s h
        obtain ⟨hi38, h⟩ := zoI_s h
        refine zr_last F zd_MPainter_colour_107 (zW_a2 hs36) hi38 ?_
        obtain ⟨mm39, emm39, h⟩ := zoL_s h
        refine zr_norm (zW tA b sh mm39) _ (by rw [emm39]; exact zW_s2 hs36) rfl ?_
        refine zr_iinc (v := (v14 + 1)) F zd_MPainter_colour_108 rfl rfl (by decide) ?_
        refine zr_goto F 35 zd_MPainter_colour_111 (by decide) ?_
        refine zr_loc (L' := [(0, .ref (b + v0)), (1, .int v1), (6, .long v6), (8, .long v8), (10, .long v10), (12, .int v12), (13, .int v13), (14, .int (v14 + 1))]) ⟨rfl, rfl, rfl, rfl, rfl, rfl, rfl, rfl, trivial⟩ ?_
        exact ih _ _ _ _ _ _ _ _ _ _ h hx0
      ·
        rw [if_neg hb16] at h
        refine zr_ldc2 F zd_MPainter_colour_46 zw_2138 ?_
        refine zr_pcn 49 rfl ?_
        refine zr_goto F 66 zd_MPainter_colour_49 (by decide) ?_
        refine zr_lstore F zd_MPainter_colour_66 (by decide) ?_
        refine zr_aload_n F zd_MPainter_colour_68 rfl ?_
        obtain ⟨le41, hs40, h⟩ := zoS_s h
        obtain ⟨a42, ea42, h⟩ := zoB_s h
        refine zr_get F 13 30 zd_MPainter_colour_69 (zW_o hs40 (by decide)) rfl (by decide) zw_1610 rfl (by rfl) ?_
        refine zr_tor ea42 ?_
        refine zr_iload F zd_MPainter_colour_72 rfl ?_
        refine zr_lload F zd_MPainter_colour_74 rfl ?_
        refine zr_aload_n F zd_MPainter_colour_76 rfl ?_
        obtain ⟨le44, hs43, h⟩ := zoS_s h
        obtain ⟨a45, ea45, h⟩ := zoB_s h
        refine zr_get F 13 5 zd_MPainter_colour_77 (zW_o hs43 (by decide)) rfl (by decide) zw_1581 rfl (by rfl) ?_
        refine zr_tor ea45 ?_
        refine zr_pcn 80 rfl ?_
        obtain ⟨le47, hs46, h⟩ := zoS_s h
        obtain ⟨a48, ea48, h⟩ := zoB_s h
        refine zr_get F 15 9 zd_MPainter_colour_80 (zW_o hs46 (by decide)) rfl (by decide) zw_1345 rfl (by rfl) ?_
        refine zr_tor ea48 ?_
        refine zr_iconstv (v := 4) F zd_MPainter_colour_83 (by decide) ?_
        refine zr_iload_n F zd_MPainter_colour_84 rfl ?_
        refine zr_imul F zd_MPainter_colour_85 ?_
        refine zr_iload F zd_MPainter_colour_86 rfl ?_
        refine zr_iadd F zd_MPainter_colour_88 ?_
        obtain ⟨i49, ei49, h⟩ := zoL_s h
        rw [← ei49]
        obtain ⟨le51, hs50, h⟩ := zoS_s h
        obtain ⟨hi52, h⟩ := zoI_s h
        refine zr_iald F zd_MPainter_colour_89 (zW_a0 hs50) hi52 ?_
        refine zr_i2l F zd_MPainter_colour_90 ?_
        refine zr_pcn 91 rfl ?_
        refine zr_lmul F zd_MPainter_colour_91 ?_
        refine zr_ldc2 F zd_MPainter_colour_92 zw_2138 ?_
        obtain ⟨x53, ex53, h⟩ := zoL_s h
        rw [← ex53]
        obtain ⟨p54, ep54, h⟩ := zoB_s h
        refine zr_callS1 F (k_MPainter_div l D tA b sh _ ep54) zd_MPainter_colour_95 zs_MPainter_103 zq_MPainter_div rfl rfl ⟨(Nat.le_of_ble_eq_true rfl), (Nat.le_of_ble_eq_true rfl)⟩ (Nat.le_of_ble_eq_true rfl) ⟨(Nat.le_of_ble_eq_true rfl), (Nat.le_of_ble_eq_true rfl)⟩ ?_
        refine zr_lload F zd_MPainter_colour_98 rfl ?_
        refine zr_lmul F zd_MPainter_colour_100 ?_
        refine zr_ldc2 F zd_MPainter_colour_101 zw_1952 ?_
        obtain ⟨p55, ep55, h⟩ := zoB_s h
        refine zr_callS1 F (k_MPainter_div l D tA b sh _ ep55) zd_MPainter_colour_104 zs_MPainter_103 zq_MPainter_div rfl rfl ⟨(Nat.le_of_ble_eq_true rfl), (Nat.le_of_ble_eq_true rfl)⟩ (Nat.le_of_ble_eq_true rfl) ⟨(Nat.le_of_ble_eq_true rfl), (Nat.le_of_ble_eq_true rfl)⟩ ?_
        obtain ⟨le57, hs56, h⟩ := zoS_s h
        obtain ⟨hi58, h⟩ := zoI_s h
        refine zr_last F zd_MPainter_colour_107 (zW_a2 hs56) hi58 ?_
        obtain ⟨mm59, emm59, h⟩ := zoL_s h
        refine zr_norm (zW tA b sh mm59) _ (by rw [emm59]; exact zW_s2 hs56) rfl ?_
        refine zr_pcn 108 rfl ?_
        refine zr_iinc (v := (v14 + 1)) F zd_MPainter_colour_108 rfl rfl (by decide) ?_
        refine zr_goto F 35 zd_MPainter_colour_111 (by decide) ?_
        refine zr_loc (L' := [(0, .ref (b + v0)), (1, .int v1), (6, .long v6), (8, .long v8), (10, .long v10), (12, .int v12), (13, .int v13), (14, .int (v14 + 1))]) ⟨rfl, rfl, rfl, rfl, rfl, rfl, rfl, rfl, trivial⟩ ?_
        exact ih _ _ _ _ _ _ _ _ _ _ h hx0
def F_MPainter_colour (sh : zSh) (mm : zMem) (o : Nat) (x0_ : Int32) (x1_ : Int32) (x2_ : Int32) (x3_ : Int64) (x4_ : Int64) (x5_ : Int64) (x6_ : Int64) : Option zMem := zoS (sh o) 13 (fun le2 => Option.bind (mm.2.2 o 5) (fun a3 => zoS (sh a3) 15 (fun le5 => Option.bind (mm.2.2 a3 10) (fun a6 => zoS (sh a6) 100 (fun le8 => if (x0_ : Int32) < 0 ∨ le8 ≤ (x0_ : Int32).toNatClampNeg then none else zoL (mm.1 a6 (x0_ : Int32).toNatClampNeg) (fun x10 => (if 0 ≤ x10 then zoS (sh o) 13 (fun le13 => Option.bind (F_MPainter_level sh mm o x10 x1_ x2_ x3_) (fun p14 => Option.bind (L_MPainter_colour_35 sh zfuel o x0_ x4_ x5_ x6_ x10 (p14.1) 0 (p14.2)) (fun q60 => some (q60.2.2.2.2.2.2.2.2)))) else Option.bind (L_MPainter_colour_35 sh zfuel o x0_ x4_ x5_ x6_ x10 0 0 mm) (fun q61 => some (q61.2.2.2.2.2.2.2.2)))))))))
set_option maxHeartbeats 4000000 in
set_option maxRecDepth 100000 in
theorem k_MPainter_colour (l : Launch) (D : va_G) (tA : Nat → ClassId) (b : Nat) (sh : zSh) (n : Nat) {mm : zMem} {o : Nat} {x0_ : Int32} {x1_ : Int32} {x2_ : Int32} {x3_ : Int64} {x4_ : Int64} {x5_ : Int64} {x6_ : Int64} {r : zMem} (h : F_MPainter_colour sh mm o x0_ x1_ x2_ x3_ x4_ x5_ x6_ = some r) : zM l D tA b zy_MPainter_colour zb_MPainter_colour 17 none 4 122 0 0 [.ref (b + o), .int x0_, .int x1_, .int x2_, .long x3_, .long x4_, .long x5_, .long x6_] (zW tA b sh mm) n (zE none (zW tA b sh r) n) := by
  unfold F_MPainter_colour at h
  refine zM_of (own := "OrreryBoxModel$Painter") (plainFor_of_name (by decide)) rfl (Nat.le_of_ble_eq_true rfl) (fun p e s m below meth c F hr hin hH => ?_)
  refine zr_aload_n F zd_MPainter_colour_0 rfl ?_
  obtain ⟨le2, hs1, h⟩ := zoS_s h
  obtain ⟨a3, ea3, h⟩ := zoB_s h
  refine zr_get F 13 5 zd_MPainter_colour_1 (zW_o hs1 (by decide)) rfl (by decide) zw_1581 rfl (by rfl) ?_
  refine zr_tor ea3 ?_
  obtain ⟨le5, hs4, h⟩ := zoS_s h
  obtain ⟨a6, ea6, h⟩ := zoB_s h
  refine zr_get F 15 10 zd_MPainter_colour_4 (zW_o hs4 (by decide)) rfl (by decide) zw_1348 rfl (by rfl) ?_
  refine zr_tor ea6 ?_
  refine zr_iload_n F zd_MPainter_colour_7 rfl ?_
  obtain ⟨le8, hs7, h⟩ := zoS_s h
  obtain ⟨hi9, h⟩ := zoI_s h
  refine zr_iald F zd_MPainter_colour_8 (zW_a0 hs7) hi9 ?_
  obtain ⟨x10, ex10, h⟩ := zoL_s h
  rw [← ex10]
  refine zr_istore F zd_MPainter_colour_9 (by decide) ?_
  refine zr_iload F zd_MPainter_colour_11 rfl ?_
  refine zr_pcn 13 rfl ?_
  refine zr_if_ge F 20 zd_MPainter_colour_13 (by decide) (fun hb11 => ?_) (fun hb11 => ?_)
  ·
    rw [if_pos hb11] at h
    refine zr_aload_n F zd_MPainter_colour_20 rfl ?_
    refine zr_iload F zd_MPainter_colour_21 rfl ?_
    refine zr_iload_n F zd_MPainter_colour_23 rfl ?_
    refine zr_iload_n F zd_MPainter_colour_24 rfl ?_
    refine zr_lload F zd_MPainter_colour_25 rfl ?_
    obtain ⟨le13, hs12, h⟩ := zoS_s h
    obtain ⟨p14, ep14, h⟩ := zoB_s h
    refine zr_callV1 F (k_MPainter_level l D tA b sh _ ep14) zd_MPainter_colour_27 (zW_o hs12 (by decide)) rfl zs_MPainter_339 rfl zq_MPainter_level rfl rfl ⟨(Nat.le_of_ble_eq_true rfl), (Nat.le_of_ble_eq_true rfl)⟩ (Nat.le_of_ble_eq_true rfl) ⟨(Nat.le_of_ble_eq_true rfl), (Nat.le_of_ble_eq_true rfl)⟩ ?_
    refine zr_istore F zd_MPainter_colour_30 (by decide) ?_
    refine zr_pcn 32 rfl ?_
    refine zr_iconstv (v := 0) F zd_MPainter_colour_32 (by decide) ?_
    refine zr_istore F zd_MPainter_colour_33 (by decide) ?_
    obtain ⟨q60, eq60, h⟩ := zoB_s h
    refine zr_loc (L' := [(0, .ref (b + o)), (1, .int x0_), (6, .long x4_), (8, .long x5_), (10, .long x6_), (12, .int x10), (13, .int (p14.1)), (14, .int 0)]) ⟨rfl, rfl, rfl, rfl, rfl, rfl, rfl, rfl, trivial⟩ ?_
    refine lp_MPainter_colour_35 F _ _ _ _ _ _ _ _ _ _ _ eq60 ?_
    ·
      obtain rfl := Option.some.inj h
      exact zr_vret F hr zd_MPainter_colour_114 (Nat.le_of_ble_eq_true rfl) (Nat.le_of_ble_eq_true rfl) ⟨rfl, rfl, rfl⟩
  ·
    rw [if_neg hb11] at h
    refine zr_iconstv (v := 0) F zd_MPainter_colour_16 (by decide) ?_
    refine zr_goto F 30 zd_MPainter_colour_17 (by decide) ?_
    refine zr_istore F zd_MPainter_colour_30 (by decide) ?_
    refine zr_iconstv (v := 0) F zd_MPainter_colour_32 (by decide) ?_
    refine zr_istore F zd_MPainter_colour_33 (by decide) ?_
    obtain ⟨q61, eq61, h⟩ := zoB_s h
    refine zr_loc (L' := [(0, .ref (b + o)), (1, .int x0_), (6, .long x4_), (8, .long x5_), (10, .long x6_), (12, .int x10), (13, .int 0), (14, .int 0)]) ⟨rfl, rfl, rfl, rfl, rfl, rfl, rfl, rfl, trivial⟩ ?_
    refine lp_MPainter_colour_35 F _ _ _ _ _ _ _ _ _ _ _ eq61 ?_
    ·
      refine zr_pcn 114 rfl ?_
      obtain rfl := Option.some.inj h
      exact zr_vret F hr zd_MPainter_colour_114 (Nat.le_of_ble_eq_true rfl) (Nat.le_of_ble_eq_true rfl) ⟨rfl, rfl, rfl⟩
abbrev zb_MScene_follow : ByteArray := prog_18_method_8_code
def zy_MScene_follow : MethodName := ⟨"OrreryBoxModel$Scene", "follow", "(II)V"⟩
theorem zc_MScene_follow : Cond.code zy_MScene_follow zb_MScene_follow 7 none ∈ gw := gw_t 1938 (by decide +kernel) rfl
theorem zq_MScene_follow : zy_MScene_follow.cls ≠ "java/lang/invoke/MethodHandle" ∧ zy_MScene_follow.cls ≠ "java/lang/invoke/VarHandle" ∧ (parseMethodDescriptor zy_MScene_follow.desc).map (fun d => d.parameters.length) = some 2 := by decide +kernel
theorem zd_MScene_follow_0 : decode zb_MScene_follow 0 = .ok (.aload_n 0, 1) := by decide +kernel
theorem zd_MScene_follow_1 : decode zb_MScene_follow 1 = .ok (.getfield 80, 3) := by decide +kernel
theorem zd_MScene_follow_4 : decode zb_MScene_follow 4 = .ok (.iload_n 1, 1) := by decide +kernel
theorem zd_MScene_follow_5 : decode zb_MScene_follow 5 = .ok (.iaload, 1) := by decide +kernel
theorem zd_MScene_follow_6 : decode zb_MScene_follow 6 = .ok (.istore_n 3, 1) := by decide +kernel
theorem zd_MScene_follow_7 : decode zb_MScene_follow 7 = .ok (.iconst 0, 1) := by decide +kernel
theorem zd_MScene_follow_8 : decode zb_MScene_follow 8 = .ok (.istore 4, 2) := by decide +kernel
theorem zd_MScene_follow_10 : decode zb_MScene_follow 10 = .ok (.iload 4, 2) := by decide +kernel
theorem zd_MScene_follow_12 : decode zb_MScene_follow 12 = .ok (.iload_n 3, 1) := by decide +kernel
theorem zd_MScene_follow_13 : decode zb_MScene_follow 13 = .ok (.if_icmp .ge 25, 3) := by decide +kernel
theorem zd_MScene_follow_16 : decode zb_MScene_follow 16 = .ok (.aload_n 0, 1) := by decide +kernel
theorem zd_MScene_follow_17 : decode zb_MScene_follow 17 = .ok (.getfield 83, 3) := by decide +kernel
theorem zd_MScene_follow_20 : decode zb_MScene_follow 20 = .ok (.bipush 32, 2) := by decide +kernel
theorem zd_MScene_follow_22 : decode zb_MScene_follow 22 = .ok (.iload_n 1, 1) := by decide +kernel
theorem zd_MScene_follow_23 : decode zb_MScene_follow 23 = .ok (.imul, 1) := by decide +kernel
theorem zd_MScene_follow_24 : decode zb_MScene_follow 24 = .ok (.iload 4, 2) := by decide +kernel
theorem zd_MScene_follow_26 : decode zb_MScene_follow 26 = .ok (.iadd, 1) := by decide +kernel
theorem zd_MScene_follow_27 : decode zb_MScene_follow 27 = .ok (.iaload, 1) := by decide +kernel
theorem zd_MScene_follow_28 : decode zb_MScene_follow 28 = .ok (.iload_n 2, 1) := by decide +kernel
theorem zd_MScene_follow_29 : decode zb_MScene_follow 29 = .ok (.if_icmp .gt 9, 3) := by decide +kernel
theorem zd_MScene_follow_32 : decode zb_MScene_follow 32 = .ok (.iinc 4 1, 3) := by decide +kernel
theorem zd_MScene_follow_35 : decode zb_MScene_follow 35 = .ok (.goto (-25), 3) := by decide +kernel
theorem zd_MScene_follow_38 : decode zb_MScene_follow 38 = .ok (.aload_n 0, 1) := by decide +kernel
theorem zd_MScene_follow_39 : decode zb_MScene_follow 39 = .ok (.aload_n 0, 1) := by decide +kernel
theorem zd_MScene_follow_40 : decode zb_MScene_follow 40 = .ok (.getfield 74, 3) := by decide +kernel
theorem zd_MScene_follow_43 : decode zb_MScene_follow 43 = .ok (.iload_n 1, 1) := by decide +kernel
theorem zd_MScene_follow_44 : decode zb_MScene_follow 44 = .ok (.iaload, 1) := by decide +kernel
theorem zd_MScene_follow_45 : decode zb_MScene_follow 45 = .ok (.invokevirtual 129, 3) := by decide +kernel
theorem zd_MScene_follow_48 : decode zb_MScene_follow 48 = .ok (.astore 5, 2) := by decide +kernel
theorem zd_MScene_follow_50 : decode zb_MScene_follow 50 = .ok (.iconst 0, 1) := by decide +kernel
theorem zd_MScene_follow_51 : decode zb_MScene_follow 51 = .ok (.istore 6, 2) := by decide +kernel
theorem zd_MScene_follow_53 : decode zb_MScene_follow 53 = .ok (.iload 6, 2) := by decide +kernel
theorem zd_MScene_follow_55 : decode zb_MScene_follow 55 = .ok (.iconst 3, 1) := by decide +kernel
theorem zd_MScene_follow_56 : decode zb_MScene_follow 56 = .ok (.if_icmp .ge 80, 3) := by decide +kernel
theorem zd_MScene_follow_59 : decode zb_MScene_follow 59 = .ok (.aload 5, 2) := by decide +kernel
theorem zd_MScene_follow_61 : decode zb_MScene_follow 61 = .ok (.iconst 3, 1) := by decide +kernel
theorem zd_MScene_follow_62 : decode zb_MScene_follow 62 = .ok (.aload_n 0, 1) := by decide +kernel
theorem zd_MScene_follow_63 : decode zb_MScene_follow 63 = .ok (.getfield 71, 3) := by decide +kernel
theorem zd_MScene_follow_66 : decode zb_MScene_follow 66 = .ok (.iload_n 1, 1) := by decide +kernel
theorem zd_MScene_follow_67 : decode zb_MScene_follow 67 = .ok (.iaload, 1) := by decide +kernel
theorem zd_MScene_follow_68 : decode zb_MScene_follow 68 = .ok (.imul, 1) := by decide +kernel
theorem zd_MScene_follow_69 : decode zb_MScene_follow 69 = .ok (.iload 6, 2) := by decide +kernel
theorem zd_MScene_follow_71 : decode zb_MScene_follow 71 = .ok (.iadd, 1) := by decide +kernel
theorem zd_MScene_follow_72 : decode zb_MScene_follow 72 = .ok (.iload 4, 2) := by decide +kernel
theorem zd_MScene_follow_74 : decode zb_MScene_follow 74 = .ok (.ifCond .ne 18, 3) := by decide +kernel
theorem zd_MScene_follow_77 : decode zb_MScene_follow 77 = .ok (.aload_n 0, 1) := by decide +kernel
theorem zd_MScene_follow_78 : decode zb_MScene_follow 78 = .ok (.getfield 86, 3) := by decide +kernel
theorem zd_MScene_follow_81 : decode zb_MScene_follow 81 = .ok (.bipush 96, 2) := by decide +kernel
theorem zd_MScene_follow_83 : decode zb_MScene_follow 83 = .ok (.iload_n 1, 1) := by decide +kernel
theorem zd_MScene_follow_84 : decode zb_MScene_follow 84 = .ok (.imul, 1) := by decide +kernel
theorem zd_MScene_follow_85 : decode zb_MScene_follow 85 = .ok (.iload 6, 2) := by decide +kernel
theorem zd_MScene_follow_87 : decode zb_MScene_follow 87 = .ok (.iadd, 1) := by decide +kernel
theorem zd_MScene_follow_88 : decode zb_MScene_follow 88 = .ok (.iaload, 1) := by decide +kernel
theorem zd_MScene_follow_89 : decode zb_MScene_follow 89 = .ok (.goto 40, 3) := by decide +kernel
theorem zd_MScene_follow_92 : decode zb_MScene_follow 92 = .ok (.iload 4, 2) := by decide +kernel
theorem zd_MScene_follow_94 : decode zb_MScene_follow 94 = .ok (.iload_n 3, 1) := by decide +kernel
theorem zd_MScene_follow_95 : decode zb_MScene_follow 95 = .ok (.if_icmp .ne 24, 3) := by decide +kernel
theorem zd_MScene_follow_98 : decode zb_MScene_follow 98 = .ok (.aload_n 0, 1) := by decide +kernel
theorem zd_MScene_follow_99 : decode zb_MScene_follow 99 = .ok (.getfield 86, 3) := by decide +kernel
theorem zd_MScene_follow_102 : decode zb_MScene_follow 102 = .ok (.bipush 96, 2) := by decide +kernel
theorem zd_MScene_follow_104 : decode zb_MScene_follow 104 = .ok (.iload_n 1, 1) := by decide +kernel
theorem zd_MScene_follow_105 : decode zb_MScene_follow 105 = .ok (.imul, 1) := by decide +kernel
theorem zd_MScene_follow_106 : decode zb_MScene_follow 106 = .ok (.iconst 3, 1) := by decide +kernel
theorem zd_MScene_follow_107 : decode zb_MScene_follow 107 = .ok (.iload_n 3, 1) := by decide +kernel
theorem zd_MScene_follow_108 : decode zb_MScene_follow 108 = .ok (.iconst 1, 1) := by decide +kernel
theorem zd_MScene_follow_109 : decode zb_MScene_follow 109 = .ok (.isub, 1) := by decide +kernel
theorem zd_MScene_follow_110 : decode zb_MScene_follow 110 = .ok (.imul, 1) := by decide +kernel
theorem zd_MScene_follow_111 : decode zb_MScene_follow 111 = .ok (.iadd, 1) := by decide +kernel
theorem zd_MScene_follow_112 : decode zb_MScene_follow 112 = .ok (.iload 6, 2) := by decide +kernel
theorem zd_MScene_follow_114 : decode zb_MScene_follow 114 = .ok (.iadd, 1) := by decide +kernel
theorem zd_MScene_follow_115 : decode zb_MScene_follow 115 = .ok (.iaload, 1) := by decide +kernel
theorem zd_MScene_follow_116 : decode zb_MScene_follow 116 = .ok (.goto 13, 3) := by decide +kernel
theorem zd_MScene_follow_119 : decode zb_MScene_follow 119 = .ok (.aload_n 0, 1) := by decide +kernel
theorem zd_MScene_follow_120 : decode zb_MScene_follow 120 = .ok (.iload_n 1, 1) := by decide +kernel
theorem zd_MScene_follow_121 : decode zb_MScene_follow 121 = .ok (.iload 4, 2) := by decide +kernel
theorem zd_MScene_follow_123 : decode zb_MScene_follow 123 = .ok (.iload 6, 2) := by decide +kernel
theorem zd_MScene_follow_125 : decode zb_MScene_follow 125 = .ok (.iload_n 2, 1) := by decide +kernel
theorem zd_MScene_follow_126 : decode zb_MScene_follow 126 = .ok (.invokevirtual 133, 3) := by decide +kernel
theorem zd_MScene_follow_129 : decode zb_MScene_follow 129 = .ok (.iastore, 1) := by decide +kernel
theorem zd_MScene_follow_130 : decode zb_MScene_follow 130 = .ok (.iinc 6 1, 3) := by decide +kernel
theorem zd_MScene_follow_133 : decode zb_MScene_follow 133 = .ok (.goto (-80), 3) := by decide +kernel
theorem zd_MScene_follow_136 : decode zb_MScene_follow 136 = .ok (.return_, 1) := by decide +kernel
def L_MScene_follow_10 (sh : zSh) (fuel : Nat) (v0 : Nat) (v1 : Int32) (v2 : Int32) (v3 : Int32) (v4 : Int32) (mm : zMem) : Option (Nat × Int32 × Int32 × Int32 × Int32 × zMem) := match fuel with
  | 0 => none
  | fu + 1 => (if v3 ≤ v4 then some (v0, v1, v2, v3, v4, mm) else zoS (sh v0) 15 (fun le10 => Option.bind (mm.2.2 v0 29) (fun a11 => zoL ((32 * v1) + v4) (fun i12 => zoS (sh a11) 100 (fun le14 => if (i12 : Int32) < 0 ∨ le14 ≤ (i12 : Int32).toNatClampNeg then none else (if v2 < (mm.1 a11 (i12 : Int32).toNatClampNeg) then some (v0, v1, v2, v3, v4, mm) else L_MScene_follow_10 sh fu v0 v1 v2 v3 (v4 + 1) mm))))))
set_option maxHeartbeats 4000000 in
set_option maxRecDepth 100000 in
theorem lp_MScene_follow_10 {p : Program} {l : Launch} {e : Env} {s : State} {m : MethodId} {args : Array Value} {below : List Frame} {meth : Method} {c : Code} {D : va_G} {tA : Nat → ClassId} {b n : Nat} {post : Option Value → zV → Nat → Prop} {sh : zSh} (F : zF p s m args meth c zb_MScene_follow 7 "OrreryBoxModel$Scene" D tA b) : ∀ (fuel : Nat) (v0 : Nat) (v1 : Int32) (v2 : Int32) (v3 : Int32) (v4 : Int32) (mm : zMem) (r : Nat × Int32 × Int32 × Int32 × Int32 × zMem), L_MScene_follow_10 sh fuel v0 v1 v2 v3 v4 mm = some r → (Z p l e { frames := 3, cells := 0, slots := 0, locals := 84 } s m args below meth c D b 7 (MQ below (zQ D b post) args s 0 0 (fun q => b ≤ q)) (zW tA b sh r.2.2.2.2.2) n 0 0 38 [(0, .ref (b + (r.1))), (1, .int (r.2.1)), (2, .int (r.2.2.1)), (3, .int (r.2.2.2.1)), (4, .int (r.2.2.2.2.1))] []) → Z p l e { frames := 3, cells := 0, slots := 0, locals := 84 } s m args below meth c D b 7 (MQ below (zQ D b post) args s 0 0 (fun q => b ≤ q)) (zW tA b sh mm) n 0 0 10 [(0, .ref (b + v0)), (1, .int v1), (2, .int v2), (3, .int v3), (4, .int v4)] [] := by
  intro fuel
  induction fuel with
  | zero =>
    intro v0 v1 v2 v3 v4 mm r h
    cases h
  | succ fu ih =>
    intro v0 v1 v2 v3 v4 mm r h hx0
    rw [L_MScene_follow_10] at h
    refine zr_pcn 10 rfl ?_
    refine zr_iload F zd_MScene_follow_10 rfl ?_
    refine zr_iload_n F zd_MScene_follow_12 rfl ?_
    refine zr_icmp_ge F 38 zd_MScene_follow_13 (by decide) (fun hb8 => ?_) (fun hb8 => ?_)
    ·
      rw [if_pos hb8] at h
      obtain rfl := Option.some.inj h
      refine zr_loc (L' := [(0, .ref (b + v0)), (1, .int v1), (2, .int v2), (3, .int v3), (4, .int v4)]) ⟨rfl, rfl, rfl, rfl, rfl, trivial⟩ ?_
      exact hx0 
    ·
      rw [if_neg hb8] at h
      refine zr_aload_n F zd_MScene_follow_16 rfl ?_
      obtain ⟨le10, hs9, h⟩ := zoS_s h
      obtain ⟨a11, ea11, h⟩ := zoB_s h
      refine zr_get F 15 29 zd_MScene_follow_17 (zW_o hs9 (by decide)) rfl (by decide) zw_1400 rfl (by rfl) ?_
      refine zr_tor ea11 ?_
      refine zr_bipushv (v := 32) F zd_MScene_follow_20 (by decide) ?_
      refine zr_iload_n F zd_MScene_follow_22 rfl ?_
      refine zr_imul F zd_MScene_follow_23 ?_
      refine zr_pcn 24 rfl ?_
      refine zr_iload F zd_MScene_follow_24 rfl ?_
      refine zr_iadd F zd_MScene_follow_26 ?_
      obtain ⟨i12, ei12, h⟩ := zoL_s h
      rw [← ei12]
      obtain ⟨le14, hs13, h⟩ := zoS_s h
      obtain ⟨hi15, h⟩ := zoI_s h
      refine zr_iald F zd_MScene_follow_27 (zW_a0 hs13) hi15 ?_
      refine zr_iload_n F zd_MScene_follow_28 rfl ?_
      refine zr_icmp_gt F 38 zd_MScene_follow_29 (by decide) (fun hb16 => ?_) (fun hb16 => ?_)
      ·
        rw [if_pos hb16] at h
        obtain rfl := Option.some.inj h
        refine zr_loc (L' := [(0, .ref (b + v0)), (1, .int v1), (2, .int v2), (3, .int v3), (4, .int v4)]) ⟨rfl, rfl, rfl, rfl, rfl, trivial⟩ ?_
        exact hx0 
      ·
        rw [if_neg hb16] at h
        refine zr_iinc (v := (v4 + 1)) F zd_MScene_follow_32 rfl rfl (by decide) ?_
        refine zr_goto F 10 zd_MScene_follow_35 (by decide) ?_
        refine zr_loc (L' := [(0, .ref (b + v0)), (1, .int v1), (2, .int v2), (3, .int v3), (4, .int (v4 + 1))]) ⟨rfl, rfl, rfl, rfl, rfl, trivial⟩ ?_
        exact ih _ _ _ _ _ _ _ h hx0
theorem zw_1939 : (Jvm.Cond.methodLink "OrreryBoxModel$Scene" (129 : Nat) ({ cls := "OrreryBoxModel$Scene", name := "of", desc := "(I)[I" } : Jvm.MethodName)) ∈ gw := gw_t 1939 (by decide +kernel) rfl
theorem zs_MScene_129 : zwV "OrreryBoxModel$Scene" 129 "OrreryBoxModel$Scene" zy_MScene_of zb_MScene_of 2 (some (.array .int)) := ⟨zw_1939, zw_1940, zw_1941, zw_14, zc_MScene_of⟩
theorem zw_1943 : (Jvm.Cond.methodLink "OrreryBoxModel$Scene" (133 : Nat) ({ cls := "OrreryBoxModel$Scene", name := "between", desc := "(IIII)I" } : Jvm.MethodName)) ∈ gw := gw_t 1943 (by decide +kernel) rfl
theorem zw_1945 : (Jvm.Cond.instanceMethod ({ cls := "OrreryBoxModel$Scene", name := "between", desc := "(IIII)I" } : Jvm.MethodName)) ∈ gw := gw_t 1945 (by decide +kernel) rfl
theorem zv_90 : (Jvm.Cond.selects "OrreryBoxModel$Scene" (⟨"OrreryBoxModel$Scene", "between", "(IIII)I"⟩ : MethodName) ⟨"OrreryBoxModel$Scene", "between", "(IIII)I"⟩) ∈ gw := gw_s 90 (by decide +kernel) rfl
theorem zs_MScene_133 : zwV "OrreryBoxModel$Scene" 133 "OrreryBoxModel$Scene" zy_MScene_between zb_MScene_between 17 (some .int) := ⟨zw_1943, zw_1945, zv_90, zw_14, zc_MScene_between⟩
def L_MScene_follow_53 (sh : zSh) (fuel : Nat) (v0 : Nat) (v1 : Int32) (v2 : Int32) (v3 : Int32) (v4 : Int32) (v5 : Nat) (v6 : Int32) (mm : zMem) : Option (Nat × Int32 × Int32 × Int32 × Int32 × Nat × Int32 × zMem) := match fuel with
  | 0 => none
  | fu + 1 => (if 3 ≤ v6 then some (v0, v1, v2, v3, v4, v5, v6, mm) else zoS (sh v0) 15 (fun le30 => Option.bind (mm.2.2 v0 25) (fun a31 => zoS (sh a31) 100 (fun le33 => if (v1 : Int32) < 0 ∨ le33 ≤ (v1 : Int32).toNatClampNeg then none else (if v4 = 0 then zoS (sh v0) 15 (fun le59 => Option.bind (mm.2.2 v0 30) (fun a60 => zoL ((96 * v1) + v6) (fun i61 => zoS (sh a60) 100 (fun le63 => if (i61 : Int32) < 0 ∨ le63 ≤ (i61 : Int32).toNatClampNeg then none else zoL (mm.1 a60 (i61 : Int32).toNatClampNeg) (fun x65 => zoL ((3 * (mm.1 a31 (v1 : Int32).toNatClampNeg)) + v6) (fun i66 => zoS (sh v5) 100 (fun le68 => if (i66 : Int32) < 0 ∨ le68 ≤ (i66 : Int32).toNatClampNeg then none else zoL (mI mm v5 (i66 : Int32).toNatClampNeg x65) (fun mm70 => L_MScene_follow_53 sh fu v0 v1 v2 v3 v4 v5 (v6 + 1) mm70)))))))) else (if v4 = v3 then zoS (sh v0) 15 (fun le46 => Option.bind (mm.2.2 v0 30) (fun a47 => zoL (((96 * v1) + (3 * (v3 - 1))) + v6) (fun i48 => zoS (sh a47) 100 (fun le50 => if (i48 : Int32) < 0 ∨ le50 ≤ (i48 : Int32).toNatClampNeg then none else zoL (mm.1 a47 (i48 : Int32).toNatClampNeg) (fun x52 => zoL ((3 * (mm.1 a31 (v1 : Int32).toNatClampNeg)) + v6) (fun i53 => zoS (sh v5) 100 (fun le55 => if (i53 : Int32) < 0 ∨ le55 ≤ (i53 : Int32).toNatClampNeg then none else zoL (mI mm v5 (i53 : Int32).toNatClampNeg x52) (fun mm57 => L_MScene_follow_53 sh fu v0 v1 v2 v3 v4 v5 (v6 + 1) mm57)))))))) else zoS (sh v0) 15 (fun le38 => Option.bind (F_MScene_between sh mm v0 v1 v4 v6 v2) (fun p39 => zoL ((3 * (mm.1 a31 (v1 : Int32).toNatClampNeg)) + v6) (fun i40 => zoS (sh v5) 100 (fun le42 => if (i40 : Int32) < 0 ∨ le42 ≤ (i40 : Int32).toNatClampNeg then none else zoL (mI (p39.2) v5 (i40 : Int32).toNatClampNeg (p39.1)) (fun mm44 => L_MScene_follow_53 sh fu v0 v1 v2 v3 v4 v5 (v6 + 1) mm44)))))))))))
set_option maxHeartbeats 4000000 in
set_option maxRecDepth 100000 in
theorem lp_MScene_follow_53 {p : Program} {l : Launch} {e : Env} {s : State} {m : MethodId} {args : Array Value} {below : List Frame} {meth : Method} {c : Code} {D : va_G} {tA : Nat → ClassId} {b n : Nat} {post : Option Value → zV → Nat → Prop} {sh : zSh} (F : zF p s m args meth c zb_MScene_follow 7 "OrreryBoxModel$Scene" D tA b) : ∀ (fuel : Nat) (v0 : Nat) (v1 : Int32) (v2 : Int32) (v3 : Int32) (v4 : Int32) (v5 : Nat) (v6 : Int32) (mm : zMem) (r : Nat × Int32 × Int32 × Int32 × Int32 × Nat × Int32 × zMem), L_MScene_follow_53 sh fuel v0 v1 v2 v3 v4 v5 v6 mm = some r → (Z p l e { frames := 3, cells := 0, slots := 0, locals := 84 } s m args below meth c D b 7 (MQ below (zQ D b post) args s 0 0 (fun q => b ≤ q)) (zW tA b sh r.2.2.2.2.2.2.2) n 0 0 136 [(0, .ref (b + (r.1))), (1, .int (r.2.1)), (2, .int (r.2.2.1)), (3, .int (r.2.2.2.1)), (4, .int (r.2.2.2.2.1)), (5, .ref (b + (r.2.2.2.2.2.1))), (6, .int (r.2.2.2.2.2.2.1))] []) → Z p l e { frames := 3, cells := 0, slots := 0, locals := 84 } s m args below meth c D b 7 (MQ below (zQ D b post) args s 0 0 (fun q => b ≤ q)) (zW tA b sh mm) n 0 0 53 [(0, .ref (b + v0)), (1, .int v1), (2, .int v2), (3, .int v3), (4, .int v4), (5, .ref (b + v5)), (6, .int v6)] [] := by
  intro fuel
  induction fuel with
  | zero =>
    intro v0 v1 v2 v3 v4 v5 v6 mm r h
    cases h
  | succ fu ih =>
    intro v0 v1 v2 v3 v4 v5 v6 mm r h hx0
    rw [L_MScene_follow_53] at h
    refine zr_pcn 53 rfl ?_
    refine zr_iload F zd_MScene_follow_53 rfl ?_
    refine zr_iconstv (v := 3) F zd_MScene_follow_55 (by decide) ?_
    refine zr_icmp_ge F 136 zd_MScene_follow_56 (by decide) (fun hb28 => ?_) (fun hb28 => ?_)
    ·
      rw [if_pos hb28] at h
      obtain rfl := Option.some.inj h
      refine zr_loc (L' := [(0, .ref (b + v0)), (1, .int v1), (2, .int v2), (3, .int v3), (4, .int v4), (5, .ref (b + v5)), (6, .int v6)]) ⟨rfl, rfl, rfl, rfl, rfl, rfl, rfl, trivial⟩ ?_
      exact hx0 
    ·
      rw [if_neg hb28] at h
      refine zr_aload F zd_MScene_follow_59 rfl ?_
      refine zr_iconstv (v := 3) F zd_MScene_follow_61 (by decide) ?_
      refine zr_aload_n F zd_MScene_follow_62 rfl ?_
      obtain ⟨le30, hs29, h⟩ := zoS_s h
      obtain ⟨a31, ea31, h⟩ := zoB_s h
      refine zr_get F 15 25 zd_MScene_follow_63 (zW_o hs29 (by decide)) rfl (by decide) zw_1392 rfl (by rfl) ?_
      refine zr_tor ea31 ?_
      refine zr_iload_n F zd_MScene_follow_66 rfl ?_
      refine zr_pcn 67 rfl ?_
      obtain ⟨le33, hs32, h⟩ := zoS_s h
      obtain ⟨hi34, h⟩ := zoI_s h
      refine zr_iald F zd_MScene_follow_67 (zW_a0 hs32) hi34 ?_
      refine zr_imul F zd_MScene_follow_68 ?_
      refine zr_iload F zd_MScene_follow_69 rfl ?_
      refine zr_iadd F zd_MScene_follow_71 ?_
      refine zr_iload F zd_MScene_follow_72 rfl ?_
      refine zr_if_ne F 92 zd_MScene_follow_74 (by decide) (fun hb35 => ?_) (fun hb35 => ?_)
      ·
        rw [if_neg hb35] at h
        refine zr_iload F zd_MScene_follow_92 rfl ?_
        refine zr_iload_n F zd_MScene_follow_94 rfl ?_
        refine zr_pcn 95 rfl ?_
        refine zr_icmp_ne F 119 zd_MScene_follow_95 (by decide) (fun hb36 => ?_) (fun hb36 => ?_)
        ·
          rw [if_neg hb36] at h
          refine zr_aload_n F zd_MScene_follow_119 rfl ?_
          refine zr_iload_n F zd_MScene_follow_120 rfl ?_
          refine zr_iload F zd_MScene_follow_121 rfl ?_
          refine zr_iload F zd_MScene_follow_123 rfl ?_
          refine zr_iload_n F zd_MScene_follow_125 rfl ?_
          obtain ⟨le38, hs37, h⟩ := zoS_s h
          obtain ⟨p39, ep39, h⟩ := zoB_s h
          refine zr_callV1 F (k_MScene_between l D tA b sh _ ep39) zd_MScene_follow_126 (zW_o hs37 (by decide)) rfl zs_MScene_133 rfl zq_MScene_between rfl rfl ⟨(Nat.le_of_ble_eq_true rfl), (Nat.le_of_ble_eq_true rfl)⟩ (Nat.le_of_ble_eq_true rfl) ⟨(Nat.le_of_ble_eq_true rfl), (Nat.le_of_ble_eq_true rfl)⟩ ?_
          obtain ⟨i40, ei40, h⟩ := zoL_s h
          rw [← ei40]
          obtain ⟨le42, hs41, h⟩ := zoS_s h
          obtain ⟨hi43, h⟩ := zoI_s h
          refine zr_iast F zd_MScene_follow_129 (zW_a0 hs41) hi43 ?_
          obtain ⟨mm44, emm44, h⟩ := zoL_s h
          refine zr_norm (zW tA b sh mm44) _ (by rw [emm44]; exact zW_s0 hs41) rfl ?_
          refine zr_pcn 130 rfl ?_
          refine zr_iinc (v := (v6 + 1)) F zd_MScene_follow_130 rfl rfl (by decide) ?_
          refine zr_goto F 53 zd_MScene_follow_133 (by decide) ?_
          refine zr_loc (L' := [(0, .ref (b + v0)), (1, .int v1), (2, .int v2), (3, .int v3), (4, .int v4), (5, .ref (b + v5)), (6, .int (v6 + 1))]) ⟨rfl, rfl, rfl, rfl, rfl, rfl, rfl, trivial⟩ ?_
          exact ih _ _ _ _ _ _ _ _ _ h hx0
        ·
          rw [if_pos hb36] at h
          refine zr_aload_n F zd_MScene_follow_98 rfl ?_
          obtain ⟨le46, hs45, h⟩ := zoS_s h
          obtain ⟨a47, ea47, h⟩ := zoB_s h
          refine zr_get F 15 30 zd_MScene_follow_99 (zW_o hs45 (by decide)) rfl (by decide) zw_1402 rfl (by rfl) ?_
          refine zr_tor ea47 ?_
          refine zr_bipushv (v := 96) F zd_MScene_follow_102 (by decide) ?_
          refine zr_iload_n F zd_MScene_follow_104 rfl ?_
          refine zr_imul F zd_MScene_follow_105 ?_
          refine zr_iconstv (v := 3) F zd_MScene_follow_106 (by decide) ?_
          refine zr_pcn 107 rfl ?_
          refine zr_iload_n F zd_MScene_follow_107 rfl ?_
          refine zr_iconstv (v := 1) F zd_MScene_follow_108 (by decide) ?_
          refine zr_isub F zd_MScene_follow_109 ?_
          refine zr_imul F zd_MScene_follow_110 ?_
          refine zr_iadd F zd_MScene_follow_111 ?_
          refine zr_iload F zd_MScene_follow_112 rfl ?_
          refine zr_iadd F zd_MScene_follow_114 ?_
          obtain ⟨i48, ei48, h⟩ := zoL_s h
          rw [← ei48]
          obtain ⟨le50, hs49, h⟩ := zoS_s h
          obtain ⟨hi51, h⟩ := zoI_s h
          refine zr_iald F zd_MScene_follow_115 (zW_a0 hs49) hi51 ?_
          refine zr_pcn 116 rfl ?_
          refine zr_goto F 129 zd_MScene_follow_116 (by decide) ?_
          obtain ⟨x52, ex52, h⟩ := zoL_s h
          rw [← ex52]
          obtain ⟨i53, ei53, h⟩ := zoL_s h
          rw [← ei53]
          obtain ⟨le55, hs54, h⟩ := zoS_s h
          obtain ⟨hi56, h⟩ := zoI_s h
          refine zr_iast F zd_MScene_follow_129 (zW_a0 hs54) hi56 ?_
          obtain ⟨mm57, emm57, h⟩ := zoL_s h
          refine zr_norm (zW tA b sh mm57) _ (by rw [emm57]; exact zW_s0 hs54) rfl ?_
          refine zr_iinc (v := (v6 + 1)) F zd_MScene_follow_130 rfl rfl (by decide) ?_
          refine zr_goto F 53 zd_MScene_follow_133 (by decide) ?_
          refine zr_loc (L' := [(0, .ref (b + v0)), (1, .int v1), (2, .int v2), (3, .int v3), (4, .int v4), (5, .ref (b + v5)), (6, .int (v6 + 1))]) ⟨rfl, rfl, rfl, rfl, rfl, rfl, rfl, trivial⟩ ?_
          exact ih _ _ _ _ _ _ _ _ _ h hx0
      ·
        rw [if_pos hb35] at h
        refine zr_aload_n F zd_MScene_follow_77 rfl ?_
        obtain ⟨le59, hs58, h⟩ := zoS_s h
        obtain ⟨a60, ea60, h⟩ := zoB_s h
        refine zr_get F 15 30 zd_MScene_follow_78 (zW_o hs58 (by decide)) rfl (by decide) zw_1402 rfl (by rfl) ?_
        refine zr_tor ea60 ?_
        refine zr_bipushv (v := 96) F zd_MScene_follow_81 (by decide) ?_
        refine zr_iload_n F zd_MScene_follow_83 rfl ?_
        refine zr_pcn 84 rfl ?_
        refine zr_imul F zd_MScene_follow_84 ?_
        refine zr_iload F zd_MScene_follow_85 rfl ?_
        refine zr_iadd F zd_MScene_follow_87 ?_
        obtain ⟨i61, ei61, h⟩ := zoL_s h
        rw [← ei61]
        obtain ⟨le63, hs62, h⟩ := zoS_s h
        obtain ⟨hi64, h⟩ := zoI_s h
        refine zr_iald F zd_MScene_follow_88 (zW_a0 hs62) hi64 ?_
        refine zr_goto F 129 zd_MScene_follow_89 (by decide) ?_
        obtain ⟨x65, ex65, h⟩ := zoL_s h
        rw [← ex65]
        obtain ⟨i66, ei66, h⟩ := zoL_s h
        rw [← ei66]
        obtain ⟨le68, hs67, h⟩ := zoS_s h
        obtain ⟨hi69, h⟩ := zoI_s h
        refine zr_iast F zd_MScene_follow_129 (zW_a0 hs67) hi69 ?_
        obtain ⟨mm70, emm70, h⟩ := zoL_s h
        refine zr_norm (zW tA b sh mm70) _ (by rw [emm70]; exact zW_s0 hs67) rfl ?_
        refine zr_iinc (v := (v6 + 1)) F zd_MScene_follow_130 rfl rfl (by decide) ?_
        refine zr_goto F 53 zd_MScene_follow_133 (by decide) ?_
        refine zr_loc (L' := [(0, .ref (b + v0)), (1, .int v1), (2, .int v2), (3, .int v3), (4, .int v4), (5, .ref (b + v5)), (6, .int (v6 + 1))]) ⟨rfl, rfl, rfl, rfl, rfl, rfl, rfl, trivial⟩ ?_
        exact ih _ _ _ _ _ _ _ _ _ h hx0
def F_MScene_follow (sh : zSh) (mm : zMem) (o : Nat) (x0_ : Int32) (x1_ : Int32) : Option zMem := zoS (sh o) 15 (fun le2 => Option.bind (mm.2.2 o 28) (fun a3 => zoS (sh a3) 100 (fun le5 => if (x0_ : Int32) < 0 ∨ le5 ≤ (x0_ : Int32).toNatClampNeg then none else zoL (mm.1 a3 (x0_ : Int32).toNatClampNeg) (fun x7 => Option.bind (L_MScene_follow_10 sh zfuel o x0_ x1_ x7 0 mm) (fun q17 => zoS (sh (q17.1)) 15 (fun le19 => Option.bind ((q17.2.2.2.2.2).2.2 (q17.1) 26) (fun a20 => zoS (sh a20) 100 (fun le22 => if (q17.2.1 : Int32) < 0 ∨ le22 ≤ (q17.2.1 : Int32).toNatClampNeg then none else zoS (sh (q17.1)) 15 (fun le25 => zoL ((q17.2.2.2.2.2).1 a20 (q17.2.1 : Int32).toNatClampNeg) (fun x26 => Option.bind (F_MScene_of sh (q17.2.2.2.2.2) (q17.1) x26) (fun p27 => Option.bind (L_MScene_follow_53 sh zfuel (q17.1) (q17.2.1) (q17.2.2.1) (q17.2.2.2.1) (q17.2.2.2.2.1) (p27.1) 0 (p27.2)) (fun q71 => some (q71.2.2.2.2.2.2.2)))))))))))))
set_option maxHeartbeats 4000000 in
set_option maxRecDepth 100000 in
theorem k_MScene_follow (l : Launch) (D : va_G) (tA : Nat → ClassId) (b : Nat) (sh : zSh) (n : Nat) {mm : zMem} {o : Nat} {x0_ : Int32} {x1_ : Int32} {r : zMem} (h : F_MScene_follow sh mm o x0_ x1_ = some r) : zM l D tA b zy_MScene_follow zb_MScene_follow 7 none 3 84 0 0 [.ref (b + o), .int x0_, .int x1_] (zW tA b sh mm) n (zE none (zW tA b sh r) n) := by
  unfold F_MScene_follow at h
  refine zM_of (own := "OrreryBoxModel$Scene") (plainFor_of_name (by decide)) rfl (Nat.le_of_ble_eq_true rfl) (fun p e s m below meth c F hr hin hH => ?_)
  refine zr_aload_n F zd_MScene_follow_0 rfl ?_
  obtain ⟨le2, hs1, h⟩ := zoS_s h
  obtain ⟨a3, ea3, h⟩ := zoB_s h
  refine zr_get F 15 28 zd_MScene_follow_1 (zW_o hs1 (by decide)) rfl (by decide) zw_1398 rfl (by rfl) ?_
  refine zr_tor ea3 ?_
  refine zr_iload_n F zd_MScene_follow_4 rfl ?_
  obtain ⟨le5, hs4, h⟩ := zoS_s h
  obtain ⟨hi6, h⟩ := zoI_s h
  refine zr_iald F zd_MScene_follow_5 (zW_a0 hs4) hi6 ?_
  obtain ⟨x7, ex7, h⟩ := zoL_s h
  rw [← ex7]
  refine zr_istore_n F zd_MScene_follow_6 (by decide) ?_
  refine zr_iconstv (v := 0) F zd_MScene_follow_7 (by decide) ?_
  refine zr_istore F zd_MScene_follow_8 (by decide) ?_
  obtain ⟨q17, eq17, h⟩ := zoB_s h
  refine zr_loc (L' := [(0, .ref (b + o)), (1, .int x0_), (2, .int x1_), (3, .int x7), (4, .int 0)]) ⟨rfl, rfl, rfl, rfl, rfl, trivial⟩ ?_
  refine lp_MScene_follow_10 F _ _ _ _ _ _ _ _ eq17 ?_
  ·
    refine zr_aload_n F zd_MScene_follow_38 rfl ?_
    refine zr_pcn 39 rfl ?_
    refine zr_aload_n F zd_MScene_follow_39 rfl ?_
    obtain ⟨le19, hs18, h⟩ := zoS_s h
    obtain ⟨a20, ea20, h⟩ := zoB_s h
    refine zr_get F 15 26 zd_MScene_follow_40 (zW_o hs18 (by decide)) rfl (by decide) zw_1394 rfl (by rfl) ?_
    refine zr_tor ea20 ?_
    refine zr_iload_n F zd_MScene_follow_43 rfl ?_
    obtain ⟨le22, hs21, h⟩ := zoS_s h
    obtain ⟨hi23, h⟩ := zoI_s h
    refine zr_iald F zd_MScene_follow_44 (zW_a0 hs21) hi23 ?_
    obtain ⟨le25, hs24, h⟩ := zoS_s h
    obtain ⟨x26, ex26, h⟩ := zoL_s h
    rw [← ex26]
    obtain ⟨p27, ep27, h⟩ := zoB_s h
    refine zr_callV1 F (k_MScene_of l D tA b sh _ ep27) zd_MScene_follow_45 (zW_o hs24 (by decide)) rfl zs_MScene_129 rfl zq_MScene_of rfl rfl ⟨(Nat.le_of_ble_eq_true rfl), (Nat.le_of_ble_eq_true rfl)⟩ (Nat.le_of_ble_eq_true rfl) ⟨(Nat.le_of_ble_eq_true rfl), (Nat.le_of_ble_eq_true rfl)⟩ ?_
    refine zr_astore F zd_MScene_follow_48 (by decide) ?_
    refine zr_iconstv (v := 0) F zd_MScene_follow_50 (by decide) ?_
    refine zr_istore F zd_MScene_follow_51 (by decide) ?_
    obtain ⟨q71, eq71, h⟩ := zoB_s h
    refine zr_loc (L' := [(0, .ref (b + (q17.1))), (1, .int (q17.2.1)), (2, .int (q17.2.2.1)), (3, .int (q17.2.2.2.1)), (4, .int (q17.2.2.2.2.1)), (5, .ref (b + (p27.1))), (6, .int 0)]) ⟨rfl, rfl, rfl, rfl, rfl, rfl, rfl, trivial⟩ ?_
    refine lp_MScene_follow_53 F _ _ _ _ _ _ _ _ _ _ eq71 ?_
    ·
      refine zr_pcn 136 rfl ?_
      obtain rfl := Option.some.inj h
      exact zr_vret F hr zd_MScene_follow_136 (Nat.le_of_ble_eq_true rfl) (Nat.le_of_ble_eq_true rfl) ⟨rfl, rfl, rfl⟩
theorem zw_232 : (Jvm.Cond.fieldLink "OrreryBox" (151 : Nat) "OrreryBox$Node" "placing" "[I") ∈ gw := gw_t 232 (by decide +kernel) rfl
def F_OB_world (sh : zSh) (mm : zMem) (o : Nat) (x0_ : Int32) (x1_ : Int32) (x2_ : Int32) : Option (Int32 × zMem) := zoS (sh o) 0 (fun le2 => Option.bind (mm.2.2 o 5) (fun a3 => zoS (sh a3) 8 (fun le5 => Option.bind (F_XScene_hasNode sh mm a3 x0_) (fun p6 => (if p6.1 = 0 then none else (if (sp_OB_within x1_ 0 2) = 0 then none else (if (sp_OB_within x2_ 0 3) = 0 then none else zoS (sh o) 0 (fun le13 => Option.bind ((p6.2).2.2 o 5) (fun a14 => zoS (sh a14) 8 (fun le16 => Option.bind (F_XScene_placeNodes sh (p6.2) a14) (fun p17 => zoS (sh o) 0 (fun le19 => Option.bind (p17.2.2 o 5) (fun a20 => zoS (sh a20) 8 (fun le22 => Option.bind (p17.2.2 a20 4) (fun a23 => zoR (sh a23) (fun t27 le25 => if (x0_ : Int32) < 0 ∨ le25 ≤ (x0_ : Int32).toNatClampNeg then none else Option.bind (p17.2.2 a23 (x0_ : Int32).toNatClampNeg) (fun a28 => zoS (sh a28) 3 (fun le30 => Option.bind (p17.2.2 a28 5) (fun a31 => zoL ((4 * x1_) + x2_) (fun i32 => zoS (sh a31) 100 (fun le34 => if (i32 : Int32) < 0 ∨ le34 ≤ (i32 : Int32).toNatClampNeg then none else some ((p17.1 a31 (i32 : Int32).toNatClampNeg), p17))))))))))))))))))))))
set_option maxHeartbeats 4000000 in
set_option maxRecDepth 100000 in
theorem k_OB_world (l : Launch) (D : va_G) (tA : Nat → ClassId) (b : Nat) (sh : zSh) (n : Nat) {mm : zMem} {o : Nat} {x0_ : Int32} {x1_ : Int32} {x2_ : Int32} {r : (Int32 × zMem)} (h : F_OB_world sh mm o x0_ x1_ x2_ = some r) : zM l D tA b zy_OB_world zb_OB_world 4 (some .int) 6 147 0 0 [.ref (b + o), .int x0_, .int x1_, .int x2_] (zW tA b sh mm) n (zE (some (.int (r.1))) (zW tA b sh r.2) n) := by
  unfold F_OB_world at h
  refine zM_of (own := "OrreryBox") (plainFor_of_name (by decide)) rfl (Nat.le_of_ble_eq_true rfl) (fun p e s m below meth c F hr hin hH => ?_)
  refine zr_aload_n F zd_OB_world_0 rfl ?_
  obtain ⟨le2, hs1, h⟩ := zoS_s h
  obtain ⟨a3, ea3, h⟩ := zoB_s h
  refine zr_get F 0 5 zd_OB_world_1 (zW_o hs1 (by decide)) rfl (by decide) zw_493 rfl (by rfl) ?_
  refine zr_tor ea3 ?_
  refine zr_iload_n F zd_OB_world_4 rfl ?_
  obtain ⟨le5, hs4, h⟩ := zoS_s h
  obtain ⟨p6, ep6, h⟩ := zoB_s h
  refine zr_callV1 F (k_XScene_hasNode l D tA b sh _ ep6) zd_OB_world_5 (zW_o hs4 (by decide)) rfl zs_OB_105 rfl zq_XScene_hasNode rfl rfl ⟨(Nat.le_of_ble_eq_true rfl), (Nat.le_of_ble_eq_true rfl)⟩ (Nat.le_of_ble_eq_true rfl) ⟨(Nat.le_of_ble_eq_true rfl), (Nat.le_of_ble_eq_true rfl)⟩ ?_
  refine zr_if_eq F 29 zd_OB_world_8 (by decide) (fun hb7 => ?_) (fun hb7 => ?_)
  ·
    rw [if_pos hb7] at h
    cases h
  ·
    rw [if_neg hb7] at h
    refine zr_iload_n F zd_OB_world_11 rfl ?_
    refine zr_pcn 12 rfl ?_
    refine zr_iconstv (v := 0) F zd_OB_world_12 (by decide) ?_
    refine zr_iconstv (v := 2) F zd_OB_world_13 (by decide) ?_
    refine zr_callS1 F (c_OB_within l D tA b _ _ x1_ 0 2) zd_OB_world_14 zs_OB_97 zq_OB_within rfl rfl ⟨(Nat.le_of_ble_eq_true rfl), (Nat.le_of_ble_eq_true rfl)⟩ (Nat.le_of_ble_eq_true rfl) ⟨(Nat.le_of_ble_eq_true rfl), (Nat.le_of_ble_eq_true rfl)⟩ ?_
    refine zr_if_eq F 29 zd_OB_world_17 (by decide) (fun hb9 => ?_) (fun hb9 => ?_)
    ·
      rw [if_pos hb9] at h
      cases h
    ·
      rw [if_neg hb9] at h
      refine zr_iload_n F zd_OB_world_20 rfl ?_
      refine zr_iconstv (v := 0) F zd_OB_world_21 (by decide) ?_
      refine zr_iconstv (v := 3) F zd_OB_world_22 (by decide) ?_
      refine zr_pcn 23 rfl ?_
      refine zr_callS1 F (c_OB_within l D tA b _ _ x2_ 0 3) zd_OB_world_23 zs_OB_97 zq_OB_within rfl rfl ⟨(Nat.le_of_ble_eq_true rfl), (Nat.le_of_ble_eq_true rfl)⟩ (Nat.le_of_ble_eq_true rfl) ⟨(Nat.le_of_ble_eq_true rfl), (Nat.le_of_ble_eq_true rfl)⟩ ?_
      refine zr_if_ne F 37 zd_OB_world_26 (by decide) (fun hb11 => ?_) (fun hb11 => ?_)
      ·
        rw [if_neg hb11] at h
        refine zr_aload_n F zd_OB_world_37 rfl ?_
        obtain ⟨le13, hs12, h⟩ := zoS_s h
        obtain ⟨a14, ea14, h⟩ := zoB_s h
        refine zr_get F 0 5 zd_OB_world_38 (zW_o hs12 (by decide)) rfl (by decide) zw_493 rfl (by rfl) ?_
        refine zr_tor ea14 ?_
        obtain ⟨le16, hs15, h⟩ := zoS_s h
        obtain ⟨p17, ep17, h⟩ := zoB_s h
        refine zr_callV0 F (k_XScene_placeNodes l D tA b sh _ ep17) zd_OB_world_41 (zW_o hs15 (by decide)) rfl zs_OB_148 rfl zq_XScene_placeNodes rfl rfl ⟨(Nat.le_of_ble_eq_true rfl), (Nat.le_of_ble_eq_true rfl)⟩ (Nat.le_of_ble_eq_true rfl) ⟨(Nat.le_of_ble_eq_true rfl), (Nat.le_of_ble_eq_true rfl)⟩ ?_
        refine zr_aload_n F zd_OB_world_44 rfl ?_
        obtain ⟨le19, hs18, h⟩ := zoS_s h
        obtain ⟨a20, ea20, h⟩ := zoB_s h
        refine zr_get F 0 5 zd_OB_world_45 (zW_o hs18 (by decide)) rfl (by decide) zw_493 rfl (by rfl) ?_
        refine zr_tor ea20 ?_
        obtain ⟨le22, hs21, h⟩ := zoS_s h
        obtain ⟨a23, ea23, h⟩ := zoB_s h
        refine zr_get F 8 4 zd_OB_world_48 (zW_o hs21 (by decide)) rfl (by decide) zw_298 rfl (by rfl) ?_
        refine zr_tor ea23 ?_
        refine zr_pcn 51 rfl ?_
        refine zr_iload_n F zd_OB_world_51 rfl ?_
        obtain ⟨t27, le25, hs24, h⟩ := zoR_s h
        obtain ⟨hi26, h⟩ := zoI_s h
        obtain ⟨a28, ea28, h⟩ := zoB_s h
        refine zr_aaldW F zd_OB_world_52 hs24 hi26 ea28 ?_
        obtain ⟨le30, hs29, h⟩ := zoS_s h
        obtain ⟨a31, ea31, h⟩ := zoB_s h
        refine zr_get F 3 5 zd_OB_world_53 (zW_o hs29 (by decide)) rfl (by decide) zw_232 rfl (by rfl) ?_
        refine zr_tor ea31 ?_
        refine zr_iconstv (v := 4) F zd_OB_world_56 (by decide) ?_
        refine zr_iload_n F zd_OB_world_57 rfl ?_
        refine zr_imul F zd_OB_world_58 ?_
        refine zr_iload_n F zd_OB_world_59 rfl ?_
        refine zr_iadd F zd_OB_world_60 ?_
        refine zr_pcn 61 rfl ?_
        obtain ⟨i32, ei32, h⟩ := zoL_s h
        rw [← ei32]
        obtain ⟨le34, hs33, h⟩ := zoS_s h
        obtain ⟨hi35, h⟩ := zoI_s h
        refine zr_iald F zd_OB_world_61 (zW_a0 hs33) hi35 ?_
        obtain rfl := Option.some.inj h
        exact zr_iret F hr zd_OB_world_62 (Nat.le_of_ble_eq_true rfl) (Nat.le_of_ble_eq_true rfl) ⟨rfl, rfl, rfl⟩
      ·
        rw [if_pos hb11] at h
        cases h
def T_OB_world (sh : zSh) (mm : zMem) (o : Nat) (x0_ : Int32) (x1_ : Int32) (x2_ : Int32) : Option zMem := zoS (sh o) 0 (fun le2 => Option.bind (mm.2.2 o 5) (fun a3 => zoS (sh a3) 8 (fun le5 => Option.bind (F_XScene_hasNode sh mm a3 x0_) (fun p6 => (if p6.1 = 0 then some (p6.2) else (if (sp_OB_within x1_ 0 2) = 0 then some (p6.2) else (if (sp_OB_within x2_ 0 3) = 0 then some (p6.2) else zoS (sh o) 0 (fun le13 => Option.bind ((p6.2).2.2 o 5) (fun a14 => zoS (sh a14) 8 (fun le16 => Option.bind (F_XScene_placeNodes sh (p6.2) a14) (fun p17 => zoS (sh o) 0 (fun le19 => Option.bind (p17.2.2 o 5) (fun a20 => zoS (sh a20) 8 (fun le22 => Option.bind (p17.2.2 a20 4) (fun a23 => zoR (sh a23) (fun t27 le25 => if (x0_ : Int32) < 0 ∨ le25 ≤ (x0_ : Int32).toNatClampNeg then none else Option.bind (p17.2.2 a23 (x0_ : Int32).toNatClampNeg) (fun a28 => zoS (sh a28) 3 (fun le30 => Option.bind (p17.2.2 a28 5) (fun a31 => zoL ((4 * x1_) + x2_) (fun i32 => zoS (sh a31) 100 (fun le34 => if (i32 : Int32) < 0 ∨ le34 ≤ (i32 : Int32).toNatClampNeg then none else none)))))))))))))))))))))
set_option maxHeartbeats 4000000 in
set_option maxRecDepth 100000 in
theorem kT_OB_world (l : Launch) (D : va_G) (tA : Nat → ClassId) (b : Nat) (sh : zSh) (n : Nat) (hl : l.stackTraces = false) {mm : zMem} {o : Nat} {x0_ : Int32} {x1_ : Int32} {x2_ : Int32} {r : zMem} (h : T_OB_world sh mm o x0_ x1_ x2_ = some r) : zMT l D tA b zy_OB_world zb_OB_world 4 (some .int) 6 147 1 6 [.ref (b + o), .int x0_, .int x1_, .int x2_] (zW tA b sh mm) n "java/util/NoSuchElementException" (zW tA b sh r) (n + 1) := by
  unfold T_OB_world at h
  refine zMT_of (own := "OrreryBox") (plainFor_of_name (by decide)) rfl (Nat.le_of_ble_eq_true rfl) (fun p e s m below meth c F hno hH => ?_)
  refine zr_aload_n F zd_OB_world_0 rfl ?_
  obtain ⟨le2, hs1, h⟩ := zoS_s h
  obtain ⟨a3, ea3, h⟩ := zoB_s h
  refine zr_get F 0 5 zd_OB_world_1 (zW_o hs1 (by decide)) rfl (by decide) zw_493 rfl (by rfl) ?_
  refine zr_tor ea3 ?_
  refine zr_iload_n F zd_OB_world_4 rfl ?_
  obtain ⟨le5, hs4, h⟩ := zoS_s h
  obtain ⟨p6, ep6, h⟩ := zoB_s h
  refine zr_callV1 F (k_XScene_hasNode l D tA b sh _ ep6) zd_OB_world_5 (zW_o hs4 (by decide)) rfl zs_OB_105 rfl zq_XScene_hasNode rfl rfl ⟨(Nat.le_of_ble_eq_true rfl), (Nat.le_of_ble_eq_true rfl)⟩ (Nat.le_of_ble_eq_true rfl) ⟨(Nat.le_of_ble_eq_true rfl), (Nat.le_of_ble_eq_true rfl)⟩ ?_
  refine zr_if_eq F 29 zd_OB_world_8 (by decide) (fun hb7 => ?_) (fun hb7 => ?_)
  ·
    rw [if_pos hb7] at h
    obtain rfl := Option.some.inj h
    exact zr_throwNew (names := ["java/lang/RuntimeException", "java/lang/Exception"]) F hl hno zd_OB_world_29 zd_OB_world_32 zd_OB_world_33 zd_OB_world_36 (by decide) (by decide) (fun U hG hts => zat_NSE U hG hts) zw_1287 zw_1288 zw_28 (Nat.le_of_ble_eq_true rfl) (Nat.le_of_ble_eq_true rfl) (Nat.le_of_ble_eq_true rfl) (Nat.le_of_ble_eq_true rfl) (Nat.le_of_ble_eq_true rfl) (Nat.le_of_ble_eq_true rfl)
  ·
    rw [if_neg hb7] at h
    refine zr_iload_n F zd_OB_world_11 rfl ?_
    refine zr_pcn 12 rfl ?_
    refine zr_iconstv (v := 0) F zd_OB_world_12 (by decide) ?_
    refine zr_iconstv (v := 2) F zd_OB_world_13 (by decide) ?_
    refine zr_callS1 F (c_OB_within l D tA b _ _ x1_ 0 2) zd_OB_world_14 zs_OB_97 zq_OB_within rfl rfl ⟨(Nat.le_of_ble_eq_true rfl), (Nat.le_of_ble_eq_true rfl)⟩ (Nat.le_of_ble_eq_true rfl) ⟨(Nat.le_of_ble_eq_true rfl), (Nat.le_of_ble_eq_true rfl)⟩ ?_
    refine zr_if_eq F 29 zd_OB_world_17 (by decide) (fun hb9 => ?_) (fun hb9 => ?_)
    ·
      rw [if_pos hb9] at h
      obtain rfl := Option.some.inj h
      exact zr_throwNew (names := ["java/lang/RuntimeException", "java/lang/Exception"]) F hl hno zd_OB_world_29 zd_OB_world_32 zd_OB_world_33 zd_OB_world_36 (by decide) (by decide) (fun U hG hts => zat_NSE U hG hts) zw_1287 zw_1288 zw_28 (Nat.le_of_ble_eq_true rfl) (Nat.le_of_ble_eq_true rfl) (Nat.le_of_ble_eq_true rfl) (Nat.le_of_ble_eq_true rfl) (Nat.le_of_ble_eq_true rfl) (Nat.le_of_ble_eq_true rfl)
    ·
      rw [if_neg hb9] at h
      refine zr_iload_n F zd_OB_world_20 rfl ?_
      refine zr_iconstv (v := 0) F zd_OB_world_21 (by decide) ?_
      refine zr_iconstv (v := 3) F zd_OB_world_22 (by decide) ?_
      refine zr_pcn 23 rfl ?_
      refine zr_callS1 F (c_OB_within l D tA b _ _ x2_ 0 3) zd_OB_world_23 zs_OB_97 zq_OB_within rfl rfl ⟨(Nat.le_of_ble_eq_true rfl), (Nat.le_of_ble_eq_true rfl)⟩ (Nat.le_of_ble_eq_true rfl) ⟨(Nat.le_of_ble_eq_true rfl), (Nat.le_of_ble_eq_true rfl)⟩ ?_
      refine zr_if_ne F 37 zd_OB_world_26 (by decide) (fun hb11 => ?_) (fun hb11 => ?_)
      ·
        rw [if_neg hb11] at h
        refine zr_aload_n F zd_OB_world_37 rfl ?_
        obtain ⟨le13, hs12, h⟩ := zoS_s h
        obtain ⟨a14, ea14, h⟩ := zoB_s h
        refine zr_get F 0 5 zd_OB_world_38 (zW_o hs12 (by decide)) rfl (by decide) zw_493 rfl (by rfl) ?_
        refine zr_tor ea14 ?_
        obtain ⟨le16, hs15, h⟩ := zoS_s h
        obtain ⟨p17, ep17, h⟩ := zoB_s h
        refine zr_callV0 F (k_XScene_placeNodes l D tA b sh _ ep17) zd_OB_world_41 (zW_o hs15 (by decide)) rfl zs_OB_148 rfl zq_XScene_placeNodes rfl rfl ⟨(Nat.le_of_ble_eq_true rfl), (Nat.le_of_ble_eq_true rfl)⟩ (Nat.le_of_ble_eq_true rfl) ⟨(Nat.le_of_ble_eq_true rfl), (Nat.le_of_ble_eq_true rfl)⟩ ?_
        refine zr_aload_n F zd_OB_world_44 rfl ?_
        obtain ⟨le19, hs18, h⟩ := zoS_s h
        obtain ⟨a20, ea20, h⟩ := zoB_s h
        refine zr_get F 0 5 zd_OB_world_45 (zW_o hs18 (by decide)) rfl (by decide) zw_493 rfl (by rfl) ?_
        refine zr_tor ea20 ?_
        obtain ⟨le22, hs21, h⟩ := zoS_s h
        obtain ⟨a23, ea23, h⟩ := zoB_s h
        refine zr_get F 8 4 zd_OB_world_48 (zW_o hs21 (by decide)) rfl (by decide) zw_298 rfl (by rfl) ?_
        refine zr_tor ea23 ?_
        refine zr_pcn 51 rfl ?_
        refine zr_iload_n F zd_OB_world_51 rfl ?_
        obtain ⟨t27, le25, hs24, h⟩ := zoR_s h
        obtain ⟨hi26, h⟩ := zoI_s h
        obtain ⟨a28, ea28, h⟩ := zoB_s h
        refine zr_aaldW F zd_OB_world_52 hs24 hi26 ea28 ?_
        obtain ⟨le30, hs29, h⟩ := zoS_s h
        obtain ⟨a31, ea31, h⟩ := zoB_s h
        refine zr_get F 3 5 zd_OB_world_53 (zW_o hs29 (by decide)) rfl (by decide) zw_232 rfl (by rfl) ?_
        refine zr_tor ea31 ?_
        refine zr_iconstv (v := 4) F zd_OB_world_56 (by decide) ?_
        refine zr_iload_n F zd_OB_world_57 rfl ?_
        refine zr_imul F zd_OB_world_58 ?_
        refine zr_iload_n F zd_OB_world_59 rfl ?_
        refine zr_iadd F zd_OB_world_60 ?_
        refine zr_pcn 61 rfl ?_
        obtain ⟨i32, ei32, h⟩ := zoL_s h
        rw [← ei32]
        obtain ⟨le34, hs33, h⟩ := zoS_s h
        obtain ⟨hi35, h⟩ := zoI_s h
        refine zr_iald F zd_OB_world_61 (zW_a0 hs33) hi35 ?_
        cases h
      ·
        rw [if_pos hb11] at h
        obtain rfl := Option.some.inj h
        exact zr_throwNew (names := ["java/lang/RuntimeException", "java/lang/Exception"]) F hl hno zd_OB_world_29 zd_OB_world_32 zd_OB_world_33 zd_OB_world_36 (by decide) (by decide) (fun U hG hts => zat_NSE U hG hts) zw_1287 zw_1288 zw_28 (Nat.le_of_ble_eq_true rfl) (Nat.le_of_ble_eq_true rfl) (Nat.le_of_ble_eq_true rfl) (Nat.le_of_ble_eq_true rfl) (Nat.le_of_ble_eq_true rfl) (Nat.le_of_ble_eq_true rfl)
theorem zw_1935 : (Jvm.Cond.methodLink "OrreryBoxModel" (129 : Nat) ({ cls := "OrreryBoxModel$Scene", name := "follow", desc := "(II)V" } : Jvm.MethodName)) ∈ gw := gw_t 1935 (by decide +kernel) rfl
theorem zw_1936 : (Jvm.Cond.instanceMethod ({ cls := "OrreryBoxModel$Scene", name := "follow", desc := "(II)V" } : Jvm.MethodName)) ∈ gw := gw_t 1936 (by decide +kernel) rfl
theorem zw_1937 : (Jvm.Cond.selects "OrreryBoxModel$Scene" ({ cls := "OrreryBoxModel$Scene", name := "follow", desc := "(II)V" } : Jvm.MethodName) ({ cls := "OrreryBoxModel$Scene", name := "follow", desc := "(II)V" } : Jvm.MethodName)) ∈ gw := gw_t 1937 (by decide +kernel) rfl
theorem zs_MD_129 : zwV "OrreryBoxModel" 129 "OrreryBoxModel$Scene" zy_MScene_follow zb_MScene_follow 7 none := ⟨zw_1935, zw_1936, zw_1937, zw_14, zc_MScene_follow⟩
def L_MD_time_24 (sh : zSh) (fuel : Nat) (v0 : Nat) (v1 : Int32) (v2 : Int32) (mm : zMem) : Option (Nat × Int32 × Int32 × zMem) := match fuel with
  | 0 => none
  | fu + 1 => zoS (sh v0) 1 (fun le10 => Option.bind (mm.2.2 v0 4) (fun a11 => zoS (sh a11) 15 (fun le13 => (if (mm.1 a11 4) ≤ v2 then some (v0, v1, v2, mm) else zoS (sh v0) 1 (fun le16 => Option.bind (mm.2.2 v0 4) (fun a17 => zoS (sh a17) 15 (fun le19 => Option.bind (F_MScene_follow sh mm a17 v2 v1) (fun p20 => L_MD_time_24 sh fu v0 v1 (v2 + 1) p20))))))))
set_option maxHeartbeats 4000000 in
set_option maxRecDepth 100000 in
theorem lp_MD_time_24 {p : Program} {l : Launch} {e : Env} {s : State} {m : MethodId} {args : Array Value} {below : List Frame} {meth : Method} {c : Code} {D : va_G} {tA : Nat → ClassId} {b n : Nat} {post : Option Value → zV → Nat → Prop} {sh : zSh} (F : zF p s m args meth c zb_MD_time 3 "OrreryBoxModel" D tA b) : ∀ (fuel : Nat) (v0 : Nat) (v1 : Int32) (v2 : Int32) (mm : zMem) (r : Nat × Int32 × Int32 × zMem), L_MD_time_24 sh fuel v0 v1 v2 mm = some r → (Z p l e { frames := 4, cells := 0, slots := 0, locals := 110 } s m args below meth c D b 3 (MQ below (zQ D b post) args s 0 0 (fun q => b ≤ q)) (zW tA b sh r.2.2.2) n 0 0 50 [(0, .ref (b + (r.1))), (1, .int (r.2.1)), (2, .int (r.2.2.1))] []) → Z p l e { frames := 4, cells := 0, slots := 0, locals := 110 } s m args below meth c D b 3 (MQ below (zQ D b post) args s 0 0 (fun q => b ≤ q)) (zW tA b sh mm) n 0 0 24 [(0, .ref (b + v0)), (1, .int v1), (2, .int v2)] [] := by
  intro fuel
  induction fuel with
  | zero =>
    intro v0 v1 v2 mm r h
    cases h
  | succ fu ih =>
    intro v0 v1 v2 mm r h hx0
    rw [L_MD_time_24] at h
    refine zr_pcn 24 rfl ?_
    refine zr_iload_n F zd_MD_time_24 rfl ?_
    refine zr_aload_n F zd_MD_time_25 rfl ?_
    obtain ⟨le10, hs9, h⟩ := zoS_s h
    obtain ⟨a11, ea11, h⟩ := zoB_s h
    refine zr_get F 1 4 zd_MD_time_26 (zW_o hs9 (by decide)) rfl (by decide) zw_1684 rfl (by rfl) ?_
    refine zr_tor ea11 ?_
    obtain ⟨le13, hs12, h⟩ := zoS_s h
    refine zr_get F 15 4 zd_MD_time_29 (zW_o hs12 (by decide)) rfl (by decide) zw_1329 rfl (by rfl) ?_
    refine zr_icmp_ge F 50 zd_MD_time_32 (by decide) (fun hb14 => ?_) (fun hb14 => ?_)
    ·
      rw [if_pos hb14] at h
      obtain rfl := Option.some.inj h
      refine zr_loc (L' := [(0, .ref (b + v0)), (1, .int v1), (2, .int v2)]) ⟨rfl, rfl, rfl, trivial⟩ ?_
      exact hx0 
    ·
      rw [if_neg hb14] at h
      refine zr_aload_n F zd_MD_time_35 rfl ?_
      obtain ⟨le16, hs15, h⟩ := zoS_s h
      obtain ⟨a17, ea17, h⟩ := zoB_s h
      refine zr_get F 1 4 zd_MD_time_36 (zW_o hs15 (by decide)) rfl (by decide) zw_1684 rfl (by rfl) ?_
      refine zr_tor ea17 ?_
      refine zr_iload_n F zd_MD_time_39 rfl ?_
      refine zr_pcn 40 rfl ?_
      refine zr_iload_n F zd_MD_time_40 rfl ?_
      obtain ⟨le19, hs18, h⟩ := zoS_s h
      obtain ⟨p20, ep20, h⟩ := zoB_s h
      refine zr_callV0 F (k_MScene_follow l D tA b sh _ ep20) zd_MD_time_41 (zW_o hs18 (by decide)) rfl zs_MD_129 rfl zq_MScene_follow rfl rfl ⟨(Nat.le_of_ble_eq_true rfl), (Nat.le_of_ble_eq_true rfl)⟩ (Nat.le_of_ble_eq_true rfl) ⟨(Nat.le_of_ble_eq_true rfl), (Nat.le_of_ble_eq_true rfl)⟩ ?_
      refine zr_iinc (v := (v2 + 1)) F zd_MD_time_44 rfl rfl (by decide) ?_
      refine zr_goto F 24 zd_MD_time_47 (by decide) ?_
      refine zr_loc (L' := [(0, .ref (b + v0)), (1, .int v1), (2, .int (v2 + 1))]) ⟨rfl, rfl, rfl, trivial⟩ ?_
      exact ih _ _ _ _ _ h hx0
def F_MD_time (sh : zSh) (mm : zMem) (o : Nat) (x0_ : Int32) : Option (Int32 × zMem) := zoS (sh o) 1 (fun le2 => zoL (mI mm o 11 0) (fun mm3 => (if x0_ < 0 then some (0, mm3) else (if x0_ ≤ 1000000 then zoS (sh o) 1 (fun le7 => zoL (mI mm3 o 10 x0_) (fun mm8 => Option.bind (L_MD_time_24 sh zfuel o x0_ 0 mm8) (fun q21 => some (1, q21.2.2.2)))) else some (0, mm3)))))
set_option maxHeartbeats 4000000 in
set_option maxRecDepth 100000 in
theorem k_MD_time (l : Launch) (D : va_G) (tA : Nat → ClassId) (b : Nat) (sh : zSh) (n : Nat) {mm : zMem} {o : Nat} {x0_ : Int32} {r : (Int32 × zMem)} (h : F_MD_time sh mm o x0_ = some r) : zM l D tA b zy_MD_time zb_MD_time 3 (some .boolean) 4 110 0 0 [.ref (b + o), .int x0_] (zW tA b sh mm) n (zE (some (.int (r.1))) (zW tA b sh r.2) n) := by
  unfold F_MD_time at h
  refine zM_of (own := "OrreryBoxModel") (plainFor_of_name (by decide)) rfl (Nat.le_of_ble_eq_true rfl) (fun p e s m below meth c F hr hin hH => ?_)
  refine zr_aload_n F zd_MD_time_0 rfl ?_
  refine zr_iconstv (v := 0) F zd_MD_time_1 (by decide) ?_
  obtain ⟨le2, hs1, h⟩ := zoS_s h
  refine zr_put F 1 11 zd_MD_time_2 (zW_o hs1 (by decide)) rfl (by decide) zw_1691 rfl rfl rfl rfl (by exact (Nat.le_of_ble_eq_true rfl)) ?_
  obtain ⟨mm3, emm3, h⟩ := zoL_s h
  refine zr_norm (zW tA b sh mm3) _ (by rw [emm3]; exact zW_pI (v := 0) hs1 (by decide) (zf_I_1_11 b _ _ _)) rfl ?_
  refine zr_iload_n F zd_MD_time_5 rfl ?_
  refine zr_if_lt F 15 zd_MD_time_6 (by decide) (fun hb4 => ?_) (fun hb4 => ?_)
  ·
    rw [if_pos hb4] at h
    refine zr_iconstv (v := 0) F zd_MD_time_15 (by decide) ?_
    obtain rfl := Option.some.inj h
    exact zr_zret F hr rfl zd_MD_time_16 (Nat.le_of_ble_eq_true rfl) (Nat.le_of_ble_eq_true rfl) ⟨rfl, rfl, rfl⟩
  ·
    rw [if_neg hb4] at h
    refine zr_pcn 9 rfl ?_
    refine zr_iload_n F zd_MD_time_9 rfl ?_
    refine zr_ldc F zd_MD_time_10 zw_1934 ?_
    refine zr_icmp_le F 17 zd_MD_time_12 (by decide) (fun hb5 => ?_) (fun hb5 => ?_)
    ·
      rw [if_pos hb5] at h
      refine zr_aload_n F zd_MD_time_17 rfl ?_
      refine zr_iload_n F zd_MD_time_18 rfl ?_
      obtain ⟨le7, hs6, h⟩ := zoS_s h
      refine zr_put F 1 10 zd_MD_time_19 (zW_o hs6 (by decide)) rfl (by decide) zw_1690 rfl rfl rfl rfl (by exact (Nat.le_of_ble_eq_true rfl)) ?_
      obtain ⟨mm8, emm8, h⟩ := zoL_s h
      refine zr_norm (zW tA b sh mm8) _ (by rw [emm8]; exact zW_pI (v := x0_) hs6 (by decide) (zf_I_1_10 b _ _ _)) rfl ?_
      refine zr_iconstv (v := 0) F zd_MD_time_22 (by decide) ?_
      refine zr_istore_n F zd_MD_time_23 (by decide) ?_
      obtain ⟨q21, eq21, h⟩ := zoB_s h
      refine zr_loc (L' := [(0, .ref (b + o)), (1, .int x0_), (2, .int 0)]) ⟨rfl, rfl, rfl, trivial⟩ ?_
      refine lp_MD_time_24 F _ _ _ _ _ _ eq21 ?_
      ·
        refine zr_iconstv (v := 1) F zd_MD_time_50 (by decide) ?_
        obtain rfl := Option.some.inj h
        exact zr_zret F hr rfl zd_MD_time_51 (Nat.le_of_ble_eq_true rfl) (Nat.le_of_ble_eq_true rfl) ⟨rfl, rfl, rfl⟩
    ·
      rw [if_neg hb5] at h
      refine zr_iconstv (v := 0) F zd_MD_time_15 (by decide) ?_
      obtain rfl := Option.some.inj h
      exact zr_zret F hr rfl zd_MD_time_16 (Nat.le_of_ble_eq_true rfl) (Nat.le_of_ble_eq_true rfl) ⟨rfl, rfl, rfl⟩
def L_MD_file_16 (sh : zSh) (fuel : Nat) (v0 : Nat) (v1 : Int32) (mm : zMem) : Option (Nat × Int32 × Nat × Int32 × zMem) := match fuel with
  | 0 => none
  | fu + 1 => zoS (sh v0) 1 (fun le8 => Option.bind (F_MD_tiles sh mm v0) (fun p9 => (if p9.1 ≤ v1 then some (1, (0 : Int32), v0, v1, p9.2) else zoS (sh v0) 1 (fun le12 => Option.bind ((p9.2).2.2 v0 16) (fun a13 => zoS (sh a13) 103 (fun le15 => if (v1 : Int32) < 0 ∨ le15 ≤ (v1 : Int32).toNatClampNeg then none else (if ((p9.2).1 a13 (v1 : Int32).toNatClampNeg) = 0 then some (0, (-1), (0 : Nat), (0 : Int32), p9.2) else L_MD_file_16 sh fu v0 (v1 + 1) (p9.2))))))))
set_option maxHeartbeats 4000000 in
set_option maxRecDepth 100000 in
theorem lp_MD_file_16 {p : Program} {l : Launch} {e : Env} {s : State} {m : MethodId} {args : Array Value} {below : List Frame} {meth : Method} {c : Code} {D : va_G} {tA : Nat → ClassId} {b n : Nat} {post : Option Value → zV → Nat → Prop} {sh : zSh} (F : zF p s m args meth c zb_MD_file 2 "OrreryBoxModel" D tA b) (hr : meth.sig.returnType = (some .int)) : ∀ (fuel : Nat) (v0 : Nat) (v1 : Int32) (mm : zMem) (r : Nat × Int32 × Nat × Int32 × zMem), L_MD_file_16 sh fuel v0 v1 mm = some r → (r.1 = 1 → Z p l e { frames := 6, cells := 0, slots := 0, locals := 142 } s m args below meth c D b 2 (MQ below (zQ D b post) args s 0 0 (fun q => b ≤ q)) (zW tA b sh r.2.2.2.2) n 0 0 41 [(0, .ref (b + (r.2.2.1))), (1, .int (r.2.2.2.1))] []) → (r.1 = 0 → post (some (.int r.2.1)) (zW tA b sh r.2.2.2.2) n) → Z p l e { frames := 6, cells := 0, slots := 0, locals := 142 } s m args below meth c D b 2 (MQ below (zQ D b post) args s 0 0 (fun q => b ≤ q)) (zW tA b sh mm) n 0 0 16 [(0, .ref (b + v0)), (1, .int v1)] [] := by
  intro fuel
  induction fuel with
  | zero =>
    intro v0 v1 mm r h
    cases h
  | succ fu ih =>
    intro v0 v1 mm r h hx0 hp
    rw [L_MD_file_16] at h
    refine zr_iload_n F zd_MD_file_16 rfl ?_
    refine zr_aload_n F zd_MD_file_17 rfl ?_
    obtain ⟨le8, hs7, h⟩ := zoS_s h
    obtain ⟨p9, ep9, h⟩ := zoB_s h
    refine zr_callV1 F (k_MD_tiles l D tA b sh _ ep9) zd_MD_file_18 (zW_o hs7 (by decide)) rfl zs_MD_185 rfl zq_MD_tiles rfl rfl ⟨(Nat.le_of_ble_eq_true rfl), (Nat.le_of_ble_eq_true rfl)⟩ (Nat.le_of_ble_eq_true rfl) ⟨(Nat.le_of_ble_eq_true rfl), (Nat.le_of_ble_eq_true rfl)⟩ ?_
    refine zr_icmp_ge F 41 zd_MD_file_21 (by decide) (fun hb10 => ?_) (fun hb10 => ?_)
    ·
      rw [if_pos hb10] at h
      obtain rfl := Option.some.inj h
      refine zr_loc (L' := [(0, .ref (b + v0)), (1, .int v1)]) ⟨rfl, rfl, trivial⟩ ?_
      exact hx0 rfl
    ·
      rw [if_neg hb10] at h
      refine zr_aload_n F zd_MD_file_24 rfl ?_
      obtain ⟨le12, hs11, h⟩ := zoS_s h
      obtain ⟨a13, ea13, h⟩ := zoB_s h
      refine zr_get F 1 16 zd_MD_file_25 (zW_o hs11 (by decide)) rfl (by decide) zw_1696 rfl (by rfl) ?_
      refine zr_tor ea13 ?_
      refine zr_iload_n F zd_MD_file_28 rfl ?_
      refine zr_pcn 29 rfl ?_
      obtain ⟨le15, hs14, h⟩ := zoS_s h
      obtain ⟨hi16, h⟩ := zoI_s h
      refine zr_zald F zd_MD_file_29 (zW_a3 hs14) hi16 ?_
      refine zr_if_ne F 35 zd_MD_file_30 (by decide) (fun hb17 => ?_) (fun hb17 => ?_)
      ·
        rw [if_neg hb17] at h
        refine zr_iinc (v := (v1 + 1)) F zd_MD_file_35 rfl rfl (by decide) ?_
        refine zr_goto F 16 zd_MD_file_38 (by decide) ?_
        refine zr_loc (L' := [(0, .ref (b + v0)), (1, .int (v1 + 1))]) ⟨rfl, rfl, trivial⟩ ?_
        exact ih _ _ _ _ h hx0 hp
      ·
        rw [if_pos hb17] at h
        refine zr_iconstv (v := (-1)) F zd_MD_file_33 (by decide) ?_
        obtain rfl := Option.some.inj h
        exact zr_iret F hr zd_MD_file_34 (Nat.le_of_ble_eq_true rfl) (Nat.le_of_ble_eq_true rfl) (hp rfl)
theorem zw_2186 : (Jvm.Cond.methodLink "OrreryBoxModel" (209 : Nat) ({ cls := "OrreryBoxModel$Packer", name := "write", desc := "(II[I)I" } : Jvm.MethodName)) ∈ gw := gw_t 2186 (by decide +kernel) rfl
theorem zw_2187 : (Jvm.Cond.instanceMethod ({ cls := "OrreryBoxModel$Packer", name := "write", desc := "(II[I)I" } : Jvm.MethodName)) ∈ gw := gw_t 2187 (by decide +kernel) rfl
theorem zw_2188 : (Jvm.Cond.selects "OrreryBoxModel$Packer" ({ cls := "OrreryBoxModel$Packer", name := "write", desc := "(II[I)I" } : Jvm.MethodName) ({ cls := "OrreryBoxModel$Packer", name := "write", desc := "(II[I)I" } : Jvm.MethodName)) ∈ gw := gw_t 2188 (by decide +kernel) rfl
theorem zs_MD_209 : zwV "OrreryBoxModel" 209 "OrreryBoxModel$Packer" zy_MPacker_write zb_MPacker_write 6 (some .int) := ⟨zw_2186, zw_2187, zw_2188, zw_16, zc_MPacker_write⟩
def F_MD_file (sh : zSh) (mm : zMem) (o : Nat) : Option (Int32 × zMem) := zoS (sh o) 1 (fun le2 => zoL (mI mm o 11 0) (fun mm3 => zoS (sh o) 1 (fun le5 => (if (mm3.1 o 15) = 0 then some ((-1), mm3) else Option.bind (L_MD_file_16 sh zfuel o 0 mm3) (fun q18 => (if q18.1 = 1 then zoS (sh (q18.2.2.1)) 1 (fun le20 => Option.bind ((q18.2.2.2.2).2.2 (q18.2.2.1) 9) (fun a21 => zoS (sh (q18.2.2.1)) 1 (fun le23 => zoS (sh (q18.2.2.1)) 1 (fun le25 => zoS (sh (q18.2.2.1)) 1 (fun le27 => Option.bind ((q18.2.2.2.2).2.2 (q18.2.2.1) 17) (fun a28 => zoS (sh a21) 12 (fun le30 => zoL ((q18.2.2.2.2).1 (q18.2.2.1) 0) (fun x31 => zoL ((q18.2.2.2.2).1 (q18.2.2.1) 1) (fun x32 => Option.bind (F_MPacker_write sh (q18.2.2.2.2) a21 x31 x32 a28) (fun p33 => some (p33.1, p33.2))))))))))) else some (q18.2.1, q18.2.2.2.2)))))))
set_option maxHeartbeats 4000000 in
set_option maxRecDepth 100000 in
theorem k_MD_file (l : Launch) (D : va_G) (tA : Nat → ClassId) (b : Nat) (sh : zSh) (n : Nat) {mm : zMem} {o : Nat} {r : (Int32 × zMem)} (h : F_MD_file sh mm o = some r) : zM l D tA b zy_MD_file zb_MD_file 2 (some .int) 6 142 0 0 [.ref (b + o)] (zW tA b sh mm) n (zE (some (.int (r.1))) (zW tA b sh r.2) n) := by
  unfold F_MD_file at h
  refine zM_of (own := "OrreryBoxModel") (plainFor_of_name (by decide)) rfl (Nat.le_of_ble_eq_true rfl) (fun p e s m below meth c F hr hin hH => ?_)
  refine zr_aload_n F zd_MD_file_0 rfl ?_
  refine zr_iconstv (v := 0) F zd_MD_file_1 (by decide) ?_
  obtain ⟨le2, hs1, h⟩ := zoS_s h
  refine zr_put F 1 11 zd_MD_file_2 (zW_o hs1 (by decide)) rfl (by decide) zw_1691 rfl rfl rfl rfl (by exact (Nat.le_of_ble_eq_true rfl)) ?_
  obtain ⟨mm3, emm3, h⟩ := zoL_s h
  refine zr_norm (zW tA b sh mm3) _ (by rw [emm3]; exact zW_pI (v := 0) hs1 (by decide) (zf_I_1_11 b _ _ _)) rfl ?_
  refine zr_aload_n F zd_MD_file_5 rfl ?_
  obtain ⟨le5, hs4, h⟩ := zoS_s h
  refine zr_get F 1 15 zd_MD_file_6 (zW_o hs4 (by decide)) rfl (by decide) zw_1695 rfl (by rfl) ?_
  refine zr_if_ne F 14 zd_MD_file_9 (by decide) (fun hb6 => ?_) (fun hb6 => ?_)
  ·
    rw [if_neg hb6] at h
    refine zr_iconstv (v := 0) F zd_MD_file_14 (by decide) ?_
    refine zr_pcn 15 rfl ?_
    refine zr_istore_n F zd_MD_file_15 (by decide) ?_
    obtain ⟨q18, eq18, h⟩ := zoB_s h
    refine zr_loc (L' := [(0, .ref (b + o)), (1, .int 0)]) ⟨rfl, rfl, trivial⟩ ?_
    refine lp_MD_file_16 F hr _ _ _ _ _ eq18 ?_ ?_
    ·
      intro ec
      rw [if_pos ec] at h
      refine zr_aload_n F zd_MD_file_41 rfl ?_
      obtain ⟨le20, hs19, h⟩ := zoS_s h
      obtain ⟨a21, ea21, h⟩ := zoB_s h
      refine zr_get F 1 9 zd_MD_file_42 (zW_o hs19 (by decide)) rfl (by decide) zw_1689 rfl (by rfl) ?_
      refine zr_tor ea21 ?_
      refine zr_pcn 45 rfl ?_
      refine zr_aload_n F zd_MD_file_45 rfl ?_
      obtain ⟨le23, hs22, h⟩ := zoS_s h
      refine zr_get F 1 0 zd_MD_file_46 (zW_o hs22 (by decide)) rfl (by decide) zw_1680 rfl (by rfl) ?_
      refine zr_aload_n F zd_MD_file_49 rfl ?_
      obtain ⟨le25, hs24, h⟩ := zoS_s h
      refine zr_get F 1 1 zd_MD_file_50 (zW_o hs24 (by decide)) rfl (by decide) zw_1681 rfl (by rfl) ?_
      refine zr_aload_n F zd_MD_file_53 rfl ?_
      obtain ⟨le27, hs26, h⟩ := zoS_s h
      obtain ⟨a28, ea28, h⟩ := zoB_s h
      refine zr_get F 1 17 zd_MD_file_54 (zW_o hs26 (by decide)) rfl (by decide) zw_1697 rfl (by rfl) ?_
      refine zr_tor ea28 ?_
      obtain ⟨le30, hs29, h⟩ := zoS_s h
      obtain ⟨x31, ex31, h⟩ := zoL_s h
      rw [← ex31]
      obtain ⟨x32, ex32, h⟩ := zoL_s h
      rw [← ex32]
      obtain ⟨p33, ep33, h⟩ := zoB_s h
      refine zr_callV1 F (k_MPacker_write l D tA b sh _ ep33) zd_MD_file_57 (zW_o hs29 (by decide)) rfl zs_MD_209 rfl zq_MPacker_write rfl rfl ⟨(Nat.le_of_ble_eq_true rfl), (Nat.le_of_ble_eq_true rfl)⟩ (Nat.le_of_ble_eq_true rfl) ⟨(Nat.le_of_ble_eq_true rfl), (Nat.le_of_ble_eq_true rfl)⟩ ?_
      obtain rfl := Option.some.inj h
      exact zr_iret F hr zd_MD_file_60 (Nat.le_of_ble_eq_true rfl) (Nat.le_of_ble_eq_true rfl) ⟨rfl, rfl, rfl⟩
    ·
      intro ec
      rw [if_neg (by rw [ec]; decide)] at h
      obtain rfl := Option.some.inj h
      exact ⟨rfl, rfl, rfl⟩
  ·
    rw [if_pos hb6] at h
    refine zr_pcn 12 rfl ?_
    refine zr_iconstv (v := (-1)) F zd_MD_file_12 (by decide) ?_
    obtain rfl := Option.some.inj h
    exact zr_iret F hr zd_MD_file_13 (Nat.le_of_ble_eq_true rfl) (Nat.le_of_ble_eq_true rfl) ⟨rfl, rfl, rfl⟩
abbrev zb_XPacker_makeRows : ByteArray := prog_5_method_4_code
def zy_XPacker_makeRows : MethodName := ⟨"OrreryBox$Packer", "makeRows", "(II)V"⟩
theorem zc_XPacker_makeRows : Cond.code zy_XPacker_makeRows zb_XPacker_makeRows 6 none ∈ gw := gw_t 915 (by decide +kernel) rfl
theorem zq_XPacker_makeRows : zy_XPacker_makeRows.cls ≠ "java/lang/invoke/MethodHandle" ∧ zy_XPacker_makeRows.cls ≠ "java/lang/invoke/VarHandle" ∧ (parseMethodDescriptor zy_XPacker_makeRows.desc).map (fun d => d.parameters.length) = some 2 := by decide +kernel
theorem zd_XPacker_makeRows_0 : decode zb_XPacker_makeRows 0 = .ok (.aload_n 0, 1) := by decide +kernel
theorem zd_XPacker_makeRows_1 : decode zb_XPacker_makeRows 1 = .ok (.iconst 0, 1) := by decide +kernel
theorem zd_XPacker_makeRows_2 : decode zb_XPacker_makeRows 2 = .ok (.putfield 70, 3) := by decide +kernel
theorem zd_XPacker_makeRows_5 : decode zb_XPacker_makeRows 5 = .ok (.iconst 0, 1) := by decide +kernel
theorem zd_XPacker_makeRows_6 : decode zb_XPacker_makeRows 6 = .ok (.istore_n 3, 1) := by decide +kernel
theorem zd_XPacker_makeRows_7 : decode zb_XPacker_makeRows 7 = .ok (.iload_n 3, 1) := by decide +kernel
theorem zd_XPacker_makeRows_8 : decode zb_XPacker_makeRows 8 = .ok (.iload_n 2, 1) := by decide +kernel
theorem zd_XPacker_makeRows_9 : decode zb_XPacker_makeRows 9 = .ok (.if_icmp .ge 82, 3) := by decide +kernel
theorem zd_XPacker_makeRows_12 : decode zb_XPacker_makeRows 12 = .ok (.aload_n 0, 1) := by decide +kernel
theorem zd_XPacker_makeRows_13 : decode zb_XPacker_makeRows 13 = .ok (.iload_n 3, 1) := by decide +kernel
theorem zd_XPacker_makeRows_14 : decode zb_XPacker_makeRows 14 = .ok (.iload_n 1, 1) := by decide +kernel
theorem zd_XPacker_makeRows_15 : decode zb_XPacker_makeRows 15 = .ok (.invokevirtual 73, 3) := by decide +kernel
theorem zd_XPacker_makeRows_18 : decode zb_XPacker_makeRows 18 = .ok (.istore 4, 2) := by decide +kernel
theorem zd_XPacker_makeRows_20 : decode zb_XPacker_makeRows 20 = .ok (.aload_n 0, 1) := by decide +kernel
theorem zd_XPacker_makeRows_21 : decode zb_XPacker_makeRows 21 = .ok (.getfield 19, 3) := by decide +kernel
theorem zd_XPacker_makeRows_24 : decode zb_XPacker_makeRows 24 = .ok (.aload_n 0, 1) := by decide +kernel
theorem zd_XPacker_makeRows_25 : decode zb_XPacker_makeRows 25 = .ok (.getfield 70, 3) := by decide +kernel
theorem zd_XPacker_makeRows_28 : decode zb_XPacker_makeRows 28 = .ok (.iload 4, 2) := by decide +kernel
theorem zd_XPacker_makeRows_30 : decode zb_XPacker_makeRows 30 = .ok (.iastore, 1) := by decide +kernel
theorem zd_XPacker_makeRows_31 : decode zb_XPacker_makeRows 31 = .ok (.aload_n 0, 1) := by decide +kernel
theorem zd_XPacker_makeRows_32 : decode zb_XPacker_makeRows 32 = .ok (.dup, 1) := by decide +kernel
theorem zd_XPacker_makeRows_33 : decode zb_XPacker_makeRows 33 = .ok (.getfield 70, 3) := by decide +kernel
theorem zd_XPacker_makeRows_36 : decode zb_XPacker_makeRows 36 = .ok (.iconst 1, 1) := by decide +kernel
theorem zd_XPacker_makeRows_37 : decode zb_XPacker_makeRows 37 = .ok (.iadd, 1) := by decide +kernel
theorem zd_XPacker_makeRows_38 : decode zb_XPacker_makeRows 38 = .ok (.putfield 70, 3) := by decide +kernel
theorem zd_XPacker_makeRows_41 : decode zb_XPacker_makeRows 41 = .ok (.iconst 0, 1) := by decide +kernel
theorem zd_XPacker_makeRows_42 : decode zb_XPacker_makeRows 42 = .ok (.istore 5, 2) := by decide +kernel
theorem zd_XPacker_makeRows_44 : decode zb_XPacker_makeRows 44 = .ok (.iload 5, 2) := by decide +kernel
theorem zd_XPacker_makeRows_46 : decode zb_XPacker_makeRows 46 = .ok (.iload_n 1, 1) := by decide +kernel
theorem zd_XPacker_makeRows_47 : decode zb_XPacker_makeRows 47 = .ok (.if_icmp .ge 38, 3) := by decide +kernel
theorem zd_XPacker_makeRows_50 : decode zb_XPacker_makeRows 50 = .ok (.aload_n 0, 1) := by decide +kernel
theorem zd_XPacker_makeRows_51 : decode zb_XPacker_makeRows 51 = .ok (.getfield 19, 3) := by decide +kernel
theorem zd_XPacker_makeRows_54 : decode zb_XPacker_makeRows 54 = .ok (.aload_n 0, 1) := by decide +kernel
theorem zd_XPacker_makeRows_55 : decode zb_XPacker_makeRows 55 = .ok (.getfield 70, 3) := by decide +kernel
theorem zd_XPacker_makeRows_58 : decode zb_XPacker_makeRows 58 = .ok (.aload_n 0, 1) := by decide +kernel
theorem zd_XPacker_makeRows_59 : decode zb_XPacker_makeRows 59 = .ok (.iload 4, 2) := by decide +kernel
theorem zd_XPacker_makeRows_61 : decode zb_XPacker_makeRows 61 = .ok (.iload 5, 2) := by decide +kernel
theorem zd_XPacker_makeRows_63 : decode zb_XPacker_makeRows 63 = .ok (.iload_n 3, 1) := by decide +kernel
theorem zd_XPacker_makeRows_64 : decode zb_XPacker_makeRows 64 = .ok (.iload_n 1, 1) := by decide +kernel
theorem zd_XPacker_makeRows_65 : decode zb_XPacker_makeRows 65 = .ok (.invokevirtual 77, 3) := by decide +kernel
theorem zd_XPacker_makeRows_68 : decode zb_XPacker_makeRows 68 = .ok (.iastore, 1) := by decide +kernel
theorem zd_XPacker_makeRows_69 : decode zb_XPacker_makeRows 69 = .ok (.aload_n 0, 1) := by decide +kernel
theorem zd_XPacker_makeRows_70 : decode zb_XPacker_makeRows 70 = .ok (.dup, 1) := by decide +kernel
theorem zd_XPacker_makeRows_71 : decode zb_XPacker_makeRows 71 = .ok (.getfield 70, 3) := by decide +kernel
theorem zd_XPacker_makeRows_74 : decode zb_XPacker_makeRows 74 = .ok (.iconst 1, 1) := by decide +kernel
theorem zd_XPacker_makeRows_75 : decode zb_XPacker_makeRows 75 = .ok (.iadd, 1) := by decide +kernel
theorem zd_XPacker_makeRows_76 : decode zb_XPacker_makeRows 76 = .ok (.putfield 70, 3) := by decide +kernel
theorem zd_XPacker_makeRows_79 : decode zb_XPacker_makeRows 79 = .ok (.iinc 5 1, 3) := by decide +kernel
theorem zd_XPacker_makeRows_82 : decode zb_XPacker_makeRows 82 = .ok (.goto (-38), 3) := by decide +kernel
theorem zd_XPacker_makeRows_85 : decode zb_XPacker_makeRows 85 = .ok (.iinc 3 1, 3) := by decide +kernel
theorem zd_XPacker_makeRows_88 : decode zb_XPacker_makeRows 88 = .ok (.goto (-81), 3) := by decide +kernel
theorem zd_XPacker_makeRows_91 : decode zb_XPacker_makeRows 91 = .ok (.return_, 1) := by decide +kernel
theorem zf_I_4_4 (b : Nat) (m : zMem) (k : Nat) (v : Int32) : (zfl b 4 m k).set 4 (.int v) = zfl b 4 (mI m k 4 v) k := by simp [zfl, mI, upd, vp_updL]
theorem zw_916 : (Jvm.Cond.methodLink "OrreryBox$Packer" (73 : Nat) ({ cls := "OrreryBox$Packer", name := "bestFilter", desc := "(II)I" } : Jvm.MethodName)) ∈ gw := gw_t 916 (by decide +kernel) rfl
theorem zw_918 : (Jvm.Cond.instanceMethod ({ cls := "OrreryBox$Packer", name := "bestFilter", desc := "(II)I" } : Jvm.MethodName)) ∈ gw := gw_t 918 (by decide +kernel) rfl
theorem zv_28 : (Jvm.Cond.selects "OrreryBox$Packer" (⟨"OrreryBox$Packer", "bestFilter", "(II)I"⟩ : MethodName) ⟨"OrreryBox$Packer", "bestFilter", "(II)I"⟩) ∈ gw := gw_s 28 (by decide +kernel) rfl
theorem zs_XPacker_73 : zwV "OrreryBox$Packer" 73 "OrreryBox$Packer" zy_XPacker_bestFilter zb_XPacker_bestFilter 9 (some .int) := ⟨zw_916, zw_918, zv_28, zw_3, zc_XPacker_bestFilter⟩
def L_XPacker_makeRows_44 (sh : zSh) (fuel : Nat) (v0 : Nat) (v1 : Int32) (v2 : Int32) (v3 : Int32) (v4 : Int32) (v5 : Int32) (mm : zMem) : Option (Nat × Int32 × Int32 × Int32 × Int32 × Int32 × zMem) := match fuel with
  | 0 => none
  | fu + 1 => (if v1 ≤ v5 then some (v0, v1, v2, v3, v4, v5, mm) else zoS (sh v0) 4 (fun le26 => Option.bind (mm.2.2 v0 3) (fun a27 => zoS (sh v0) 4 (fun le29 => zoS (sh v0) 4 (fun le31 => Option.bind (F_XPacker_filtered sh mm v0 v4 v5 v3 v1) (fun p32 => zoL (mm.1 v0 4) (fun i33 => zoS (sh a27) 100 (fun le35 => if (i33 : Int32) < 0 ∨ le35 ≤ (i33 : Int32).toNatClampNeg then none else zoL (mI (p32.2) a27 (i33 : Int32).toNatClampNeg (p32.1)) (fun mm37 => zoS (sh v0) 4 (fun le39 => zoL ((mm37.1 v0 4) + 1) (fun x40 => zoS (sh v0) 4 (fun le42 => zoL (mI mm37 v0 4 x40) (fun mm43 => L_XPacker_makeRows_44 sh fu v0 v1 v2 v3 v4 (v5 + 1) mm43)))))))))))))
set_option maxHeartbeats 4000000 in
set_option maxRecDepth 100000 in
theorem lp_XPacker_makeRows_44 {p : Program} {l : Launch} {e : Env} {s : State} {m : MethodId} {args : Array Value} {below : List Frame} {meth : Method} {c : Code} {D : va_G} {tA : Nat → ClassId} {b n : Nat} {post : Option Value → zV → Nat → Prop} {sh : zSh} (F : zF p s m args meth c zb_XPacker_makeRows 6 "OrreryBox$Packer" D tA b) : ∀ (fuel : Nat) (v0 : Nat) (v1 : Int32) (v2 : Int32) (v3 : Int32) (v4 : Int32) (v5 : Int32) (mm : zMem) (r : Nat × Int32 × Int32 × Int32 × Int32 × Int32 × zMem), L_XPacker_makeRows_44 sh fuel v0 v1 v2 v3 v4 v5 mm = some r → (Z p l e { frames := 5, cells := 0, slots := 0, locals := 124 } s m args below meth c D b 6 (MQ below (zQ D b post) args s 0 0 (fun q => b ≤ q)) (zW tA b sh r.2.2.2.2.2.2) n 0 0 85 [(0, .ref (b + (r.1))), (1, .int (r.2.1)), (2, .int (r.2.2.1)), (3, .int (r.2.2.2.1)), (4, .int (r.2.2.2.2.1)), (5, .int (r.2.2.2.2.2.1))] []) → Z p l e { frames := 5, cells := 0, slots := 0, locals := 124 } s m args below meth c D b 6 (MQ below (zQ D b post) args s 0 0 (fun q => b ≤ q)) (zW tA b sh mm) n 0 0 44 [(0, .ref (b + v0)), (1, .int v1), (2, .int v2), (3, .int v3), (4, .int v4), (5, .int v5)] [] := by
  intro fuel
  induction fuel with
  | zero =>
    intro v0 v1 v2 v3 v4 v5 mm r h
    cases h
  | succ fu ih =>
    intro v0 v1 v2 v3 v4 v5 mm r h hx0
    rw [L_XPacker_makeRows_44] at h
    refine zr_iload F zd_XPacker_makeRows_44 rfl ?_
    refine zr_iload_n F zd_XPacker_makeRows_46 rfl ?_
    refine zr_icmp_ge F 85 zd_XPacker_makeRows_47 (by decide) (fun hb24 => ?_) (fun hb24 => ?_)
    ·
      rw [if_pos hb24] at h
      obtain rfl := Option.some.inj h
      refine zr_loc (L' := [(0, .ref (b + v0)), (1, .int v1), (2, .int v2), (3, .int v3), (4, .int v4), (5, .int v5)]) ⟨rfl, rfl, rfl, rfl, rfl, rfl, trivial⟩ ?_
      exact hx0 
    ·
      rw [if_neg hb24] at h
      refine zr_aload_n F zd_XPacker_makeRows_50 rfl ?_
      refine zr_pcn 51 rfl ?_
      obtain ⟨le26, hs25, h⟩ := zoS_s h
      obtain ⟨a27, ea27, h⟩ := zoB_s h
      refine zr_get F 4 3 zd_XPacker_makeRows_51 (zW_o hs25 (by decide)) rfl (by decide) zw_86 rfl (by rfl) ?_
      refine zr_tor ea27 ?_
      refine zr_aload_n F zd_XPacker_makeRows_54 rfl ?_
      obtain ⟨le29, hs28, h⟩ := zoS_s h
      refine zr_get F 4 4 zd_XPacker_makeRows_55 (zW_o hs28 (by decide)) rfl (by decide) zw_87 rfl (by rfl) ?_
      refine zr_aload_n F zd_XPacker_makeRows_58 rfl ?_
      refine zr_iload F zd_XPacker_makeRows_59 rfl ?_
      refine zr_iload F zd_XPacker_makeRows_61 rfl ?_
      refine zr_iload_n F zd_XPacker_makeRows_63 rfl ?_
      refine zr_iload_n F zd_XPacker_makeRows_64 rfl ?_
      refine zr_pcn 65 rfl ?_
      obtain ⟨le31, hs30, h⟩ := zoS_s h
      obtain ⟨p32, ep32, h⟩ := zoB_s h
      refine zr_callV1 F (k_XPacker_filtered l D tA b sh _ ep32) zd_XPacker_makeRows_65 (zW_o hs30 (by decide)) rfl zs_XPacker_77 rfl zq_XPacker_filtered rfl rfl ⟨(Nat.le_of_ble_eq_true rfl), (Nat.le_of_ble_eq_true rfl)⟩ (Nat.le_of_ble_eq_true rfl) ⟨(Nat.le_of_ble_eq_true rfl), (Nat.le_of_ble_eq_true rfl)⟩ ?_
      obtain ⟨i33, ei33, h⟩ := zoL_s h
      rw [← ei33]
      obtain ⟨le35, hs34, h⟩ := zoS_s h
      obtain ⟨hi36, h⟩ := zoI_s h
      refine zr_iast F zd_XPacker_makeRows_68 (zW_a0 hs34) hi36 ?_
      obtain ⟨mm37, emm37, h⟩ := zoL_s h
      refine zr_norm (zW tA b sh mm37) _ (by rw [emm37]; exact zW_s0 hs34) rfl ?_
      refine zr_aload_n F zd_XPacker_makeRows_69 rfl ?_
      refine zr_dup F zd_XPacker_makeRows_70 rfl ?_
      obtain ⟨le39, hs38, h⟩ := zoS_s h
      refine zr_get F 4 4 zd_XPacker_makeRows_71 (zW_o hs38 (by decide)) rfl (by decide) zw_87 rfl (by rfl) ?_
      refine zr_iconstv (v := 1) F zd_XPacker_makeRows_74 (by decide) ?_
      refine zr_iadd F zd_XPacker_makeRows_75 ?_
      obtain ⟨x40, ex40, h⟩ := zoL_s h
      rw [← ex40]
      obtain ⟨le42, hs41, h⟩ := zoS_s h
      refine zr_put F 4 4 zd_XPacker_makeRows_76 (zW_o hs41 (by decide)) rfl (by decide) zw_87 rfl rfl rfl rfl (by exact (Nat.le_of_ble_eq_true rfl)) ?_
      obtain ⟨mm43, emm43, h⟩ := zoL_s h
      refine zr_norm (zW tA b sh mm43) _ (by rw [emm43]; exact zW_pI (v := x40) hs41 (by decide) (zf_I_4_4 b _ _ _)) rfl ?_
      refine zr_pcn 79 rfl ?_
      refine zr_iinc (v := (v5 + 1)) F zd_XPacker_makeRows_79 rfl rfl (by decide) ?_
      refine zr_goto F 44 zd_XPacker_makeRows_82 (by decide) ?_
      refine zr_loc (L' := [(0, .ref (b + v0)), (1, .int v1), (2, .int v2), (3, .int v3), (4, .int v4), (5, .int (v5 + 1))]) ⟨rfl, rfl, rfl, rfl, rfl, rfl, trivial⟩ ?_
      exact ih _ _ _ _ _ _ _ _ h hx0
def L_XPacker_makeRows_7 (sh : zSh) (fuel : Nat) (v0 : Nat) (v1 : Int32) (v2 : Int32) (v3 : Int32) (mm : zMem) : Option (Nat × Int32 × Int32 × Int32 × zMem) := match fuel with
  | 0 => none
  | fu + 1 => (if v2 ≤ v3 then some (v0, v1, v2, v3, mm) else zoS (sh v0) 4 (fun le6 => Option.bind (F_XPacker_bestFilter sh mm v0 v3 v1) (fun p7 => zoS (sh v0) 4 (fun le9 => Option.bind ((p7.2).2.2 v0 3) (fun a10 => zoS (sh v0) 4 (fun le12 => zoL ((p7.2).1 v0 4) (fun i13 => zoS (sh a10) 100 (fun le15 => if (i13 : Int32) < 0 ∨ le15 ≤ (i13 : Int32).toNatClampNeg then none else zoL (mI (p7.2) a10 (i13 : Int32).toNatClampNeg (p7.1)) (fun mm17 => zoS (sh v0) 4 (fun le19 => zoL ((mm17.1 v0 4) + 1) (fun x20 => zoS (sh v0) 4 (fun le22 => zoL (mI mm17 v0 4 x20) (fun mm23 => Option.bind (L_XPacker_makeRows_44 sh zfuel v0 v1 v2 v3 (p7.1) 0 mm23) (fun q44 => L_XPacker_makeRows_7 sh fu (q44.1) (q44.2.1) (q44.2.2.1) (q44.2.2.2.1 + 1) (q44.2.2.2.2.2.2)))))))))))))))
set_option maxHeartbeats 4000000 in
set_option maxRecDepth 100000 in
theorem lp_XPacker_makeRows_7 {p : Program} {l : Launch} {e : Env} {s : State} {m : MethodId} {args : Array Value} {below : List Frame} {meth : Method} {c : Code} {D : va_G} {tA : Nat → ClassId} {b n : Nat} {post : Option Value → zV → Nat → Prop} {sh : zSh} (F : zF p s m args meth c zb_XPacker_makeRows 6 "OrreryBox$Packer" D tA b) : ∀ (fuel : Nat) (v0 : Nat) (v1 : Int32) (v2 : Int32) (v3 : Int32) (mm : zMem) (r : Nat × Int32 × Int32 × Int32 × zMem), L_XPacker_makeRows_7 sh fuel v0 v1 v2 v3 mm = some r → (Z p l e { frames := 5, cells := 0, slots := 0, locals := 124 } s m args below meth c D b 6 (MQ below (zQ D b post) args s 0 0 (fun q => b ≤ q)) (zW tA b sh r.2.2.2.2) n 0 0 91 [(0, .ref (b + (r.1))), (1, .int (r.2.1)), (2, .int (r.2.2.1)), (3, .int (r.2.2.2.1))] []) → Z p l e { frames := 5, cells := 0, slots := 0, locals := 124 } s m args below meth c D b 6 (MQ below (zQ D b post) args s 0 0 (fun q => b ≤ q)) (zW tA b sh mm) n 0 0 7 [(0, .ref (b + v0)), (1, .int v1), (2, .int v2), (3, .int v3)] [] := by
  intro fuel
  induction fuel with
  | zero =>
    intro v0 v1 v2 v3 mm r h
    cases h
  | succ fu ih =>
    intro v0 v1 v2 v3 mm r h hx0
    rw [L_XPacker_makeRows_7] at h
    refine zr_iload_n F zd_XPacker_makeRows_7 rfl ?_
    refine zr_iload_n F zd_XPacker_makeRows_8 rfl ?_
    refine zr_pcn 9 rfl ?_
    refine zr_icmp_ge F 91 zd_XPacker_makeRows_9 (by decide) (fun hb4 => ?_) (fun hb4 => ?_)
    ·
      rw [if_pos hb4] at h
      obtain rfl := Option.some.inj h
      refine zr_loc (L' := [(0, .ref (b + v0)), (1, .int v1), (2, .int v2), (3, .int v3)]) ⟨rfl, rfl, rfl, rfl, trivial⟩ ?_
      exact hx0 
    ·
      rw [if_neg hb4] at h
      refine zr_aload_n F zd_XPacker_makeRows_12 rfl ?_
      refine zr_iload_n F zd_XPacker_makeRows_13 rfl ?_
      refine zr_iload_n F zd_XPacker_makeRows_14 rfl ?_
      obtain ⟨le6, hs5, h⟩ := zoS_s h
      obtain ⟨p7, ep7, h⟩ := zoB_s h
      refine zr_callV1 F (k_XPacker_bestFilter l D tA b sh _ ep7) zd_XPacker_makeRows_15 (zW_o hs5 (by decide)) rfl zs_XPacker_73 rfl zq_XPacker_bestFilter rfl rfl ⟨(Nat.le_of_ble_eq_true rfl), (Nat.le_of_ble_eq_true rfl)⟩ (Nat.le_of_ble_eq_true rfl) ⟨(Nat.le_of_ble_eq_true rfl), (Nat.le_of_ble_eq_true rfl)⟩ ?_
      refine zr_istore F zd_XPacker_makeRows_18 (by decide) ?_
      refine zr_aload_n F zd_XPacker_makeRows_20 rfl ?_
      obtain ⟨le9, hs8, h⟩ := zoS_s h
      obtain ⟨a10, ea10, h⟩ := zoB_s h
      refine zr_get F 4 3 zd_XPacker_makeRows_21 (zW_o hs8 (by decide)) rfl (by decide) zw_86 rfl (by rfl) ?_
      refine zr_tor ea10 ?_
      refine zr_pcn 24 rfl ?_
      refine zr_aload_n F zd_XPacker_makeRows_24 rfl ?_
      obtain ⟨le12, hs11, h⟩ := zoS_s h
      refine zr_get F 4 4 zd_XPacker_makeRows_25 (zW_o hs11 (by decide)) rfl (by decide) zw_87 rfl (by rfl) ?_
      refine zr_iload F zd_XPacker_makeRows_28 rfl ?_
      obtain ⟨i13, ei13, h⟩ := zoL_s h
      rw [← ei13]
      obtain ⟨le15, hs14, h⟩ := zoS_s h
      obtain ⟨hi16, h⟩ := zoI_s h
      refine zr_iast F zd_XPacker_makeRows_30 (zW_a0 hs14) hi16 ?_
      obtain ⟨mm17, emm17, h⟩ := zoL_s h
      refine zr_norm (zW tA b sh mm17) _ (by rw [emm17]; exact zW_s0 hs14) rfl ?_
      refine zr_aload_n F zd_XPacker_makeRows_31 rfl ?_
      refine zr_dup F zd_XPacker_makeRows_32 rfl ?_
      obtain ⟨le19, hs18, h⟩ := zoS_s h
      refine zr_get F 4 4 zd_XPacker_makeRows_33 (zW_o hs18 (by decide)) rfl (by decide) zw_87 rfl (by rfl) ?_
      refine zr_iconstv (v := 1) F zd_XPacker_makeRows_36 (by decide) ?_
      refine zr_pcn 37 rfl ?_
      refine zr_iadd F zd_XPacker_makeRows_37 ?_
      obtain ⟨x20, ex20, h⟩ := zoL_s h
      rw [← ex20]
      obtain ⟨le22, hs21, h⟩ := zoS_s h
      refine zr_put F 4 4 zd_XPacker_makeRows_38 (zW_o hs21 (by decide)) rfl (by decide) zw_87 rfl rfl rfl rfl (by exact (Nat.le_of_ble_eq_true rfl)) ?_
      obtain ⟨mm23, emm23, h⟩ := zoL_s h
      refine zr_norm (zW tA b sh mm23) _ (by rw [emm23]; exact zW_pI (v := x20) hs21 (by decide) (zf_I_4_4 b _ _ _)) rfl ?_
      refine zr_iconstv (v := 0) F zd_XPacker_makeRows_41 (by decide) ?_
      refine zr_istore F zd_XPacker_makeRows_42 (by decide) ?_
      obtain ⟨q44, eq44, h⟩ := zoB_s h
      refine zr_loc (L' := [(0, .ref (b + v0)), (1, .int v1), (2, .int v2), (3, .int v3), (4, .int (p7.1)), (5, .int 0)]) ⟨rfl, rfl, rfl, rfl, rfl, rfl, trivial⟩ ?_
      refine lp_XPacker_makeRows_44 F _ _ _ _ _ _ _ _ _ eq44 ?_
      ·
        refine zr_iinc (v := (q44.2.2.2.1 + 1)) F zd_XPacker_makeRows_85 rfl rfl (by decide) ?_
        refine zr_goto F 7 zd_XPacker_makeRows_88 (by decide) ?_
        refine zr_loc (L' := [(0, .ref (b + (q44.1))), (1, .int (q44.2.1)), (2, .int (q44.2.2.1)), (3, .int (q44.2.2.2.1 + 1))]) ⟨rfl, rfl, rfl, rfl, trivial⟩ ?_
        exact ih _ _ _ _ _ _ h hx0
def F_XPacker_makeRows (sh : zSh) (mm : zMem) (o : Nat) (x0_ : Int32) (x1_ : Int32) : Option zMem := zoS (sh o) 4 (fun le2 => zoL (mI mm o 4 0) (fun mm3 => Option.bind (L_XPacker_makeRows_7 sh zfuel o x0_ x1_ 0 mm3) (fun q45 => some (q45.2.2.2.2))))
set_option maxHeartbeats 4000000 in
set_option maxRecDepth 100000 in
theorem k_XPacker_makeRows (l : Launch) (D : va_G) (tA : Nat → ClassId) (b : Nat) (sh : zSh) (n : Nat) {mm : zMem} {o : Nat} {x0_ : Int32} {x1_ : Int32} {r : zMem} (h : F_XPacker_makeRows sh mm o x0_ x1_ = some r) : zM l D tA b zy_XPacker_makeRows zb_XPacker_makeRows 6 none 5 124 0 0 [.ref (b + o), .int x0_, .int x1_] (zW tA b sh mm) n (zE none (zW tA b sh r) n) := by
  unfold F_XPacker_makeRows at h
  refine zM_of (own := "OrreryBox$Packer") (plainFor_of_name (by decide)) rfl (Nat.le_of_ble_eq_true rfl) (fun p e s m below meth c F hr hin hH => ?_)
  refine zr_aload_n F zd_XPacker_makeRows_0 rfl ?_
  refine zr_iconstv (v := 0) F zd_XPacker_makeRows_1 (by decide) ?_
  obtain ⟨le2, hs1, h⟩ := zoS_s h
  refine zr_put F 4 4 zd_XPacker_makeRows_2 (zW_o hs1 (by decide)) rfl (by decide) zw_87 rfl rfl rfl rfl (by exact (Nat.le_of_ble_eq_true rfl)) ?_
  obtain ⟨mm3, emm3, h⟩ := zoL_s h
  refine zr_norm (zW tA b sh mm3) _ (by rw [emm3]; exact zW_pI (v := 0) hs1 (by decide) (zf_I_4_4 b _ _ _)) rfl ?_
  refine zr_iconstv (v := 0) F zd_XPacker_makeRows_5 (by decide) ?_
  refine zr_istore_n F zd_XPacker_makeRows_6 (by decide) ?_
  obtain ⟨q45, eq45, h⟩ := zoB_s h
  refine zr_loc (L' := [(0, .ref (b + o)), (1, .int x0_), (2, .int x1_), (3, .int 0)]) ⟨rfl, rfl, rfl, rfl, trivial⟩ ?_
  refine lp_XPacker_makeRows_7 F _ _ _ _ _ _ _ eq45 ?_
  ·
    obtain rfl := Option.some.inj h
    exact zr_vret F hr zd_XPacker_makeRows_91 (Nat.le_of_ble_eq_true rfl) (Nat.le_of_ble_eq_true rfl) ⟨rfl, rfl, rfl⟩
abbrev zb_XPacker_putSign : ByteArray := prog_5_method_20_code
def zy_XPacker_putSign : MethodName := ⟨"OrreryBox$Packer", "putSign", "(I)V"⟩
theorem zc_XPacker_putSign : Cond.code zy_XPacker_putSign zb_XPacker_putSign 2 none ∈ gw := gw_t 1039 (by decide +kernel) rfl
theorem zq_XPacker_putSign : zy_XPacker_putSign.cls ≠ "java/lang/invoke/MethodHandle" ∧ zy_XPacker_putSign.cls ≠ "java/lang/invoke/VarHandle" ∧ (parseMethodDescriptor zy_XPacker_putSign.desc).map (fun d => d.parameters.length) = some 1 := by decide +kernel
theorem zd_XPacker_putSign_0 : decode zb_XPacker_putSign 0 = .ok (.iload_n 1, 1) := by decide +kernel
theorem zd_XPacker_putSign_1 : decode zb_XPacker_putSign 1 = .ok (.sipush 144, 3) := by decide +kernel
theorem zd_XPacker_putSign_4 : decode zb_XPacker_putSign 4 = .ok (.if_icmp .ge 16, 3) := by decide +kernel
theorem zd_XPacker_putSign_7 : decode zb_XPacker_putSign 7 = .ok (.aload_n 0, 1) := by decide +kernel
theorem zd_XPacker_putSign_8 : decode zb_XPacker_putSign 8 = .ok (.bipush 48, 2) := by decide +kernel
theorem zd_XPacker_putSign_10 : decode zb_XPacker_putSign 10 = .ok (.iload_n 1, 1) := by decide +kernel
theorem zd_XPacker_putSign_11 : decode zb_XPacker_putSign 11 = .ok (.iadd, 1) := by decide +kernel
theorem zd_XPacker_putSign_12 : decode zb_XPacker_putSign 12 = .ok (.bipush 8, 2) := by decide +kernel
theorem zd_XPacker_putSign_14 : decode zb_XPacker_putSign 14 = .ok (.invokevirtual 148, 3) := by decide +kernel
theorem zd_XPacker_putSign_17 : decode zb_XPacker_putSign 17 = .ok (.goto 64, 3) := by decide +kernel
theorem zd_XPacker_putSign_20 : decode zb_XPacker_putSign 20 = .ok (.iload_n 1, 1) := by decide +kernel
theorem zd_XPacker_putSign_21 : decode zb_XPacker_putSign 21 = .ok (.sipush 256, 3) := by decide +kernel
theorem zd_XPacker_putSign_24 : decode zb_XPacker_putSign 24 = .ok (.if_icmp .ge 21, 3) := by decide +kernel
theorem zd_XPacker_putSign_27 : decode zb_XPacker_putSign 27 = .ok (.aload_n 0, 1) := by decide +kernel
theorem zd_XPacker_putSign_28 : decode zb_XPacker_putSign 28 = .ok (.sipush 400, 3) := by decide +kernel
theorem zd_XPacker_putSign_31 : decode zb_XPacker_putSign 31 = .ok (.iload_n 1, 1) := by decide +kernel
theorem zd_XPacker_putSign_32 : decode zb_XPacker_putSign 32 = .ok (.iadd, 1) := by decide +kernel
theorem zd_XPacker_putSign_33 : decode zb_XPacker_putSign 33 = .ok (.sipush 144, 3) := by decide +kernel
theorem zd_XPacker_putSign_36 : decode zb_XPacker_putSign 36 = .ok (.isub, 1) := by decide +kernel
theorem zd_XPacker_putSign_37 : decode zb_XPacker_putSign 37 = .ok (.bipush 9, 2) := by decide +kernel
theorem zd_XPacker_putSign_39 : decode zb_XPacker_putSign 39 = .ok (.invokevirtual 148, 3) := by decide +kernel
theorem zd_XPacker_putSign_42 : decode zb_XPacker_putSign 42 = .ok (.goto 39, 3) := by decide +kernel
theorem zd_XPacker_putSign_45 : decode zb_XPacker_putSign 45 = .ok (.iload_n 1, 1) := by decide +kernel
theorem zd_XPacker_putSign_46 : decode zb_XPacker_putSign 46 = .ok (.sipush 280, 3) := by decide +kernel
theorem zd_XPacker_putSign_49 : decode zb_XPacker_putSign 49 = .ok (.if_icmp .ge 17, 3) := by decide +kernel
theorem zd_XPacker_putSign_52 : decode zb_XPacker_putSign 52 = .ok (.aload_n 0, 1) := by decide +kernel
theorem zd_XPacker_putSign_53 : decode zb_XPacker_putSign 53 = .ok (.iload_n 1, 1) := by decide +kernel
theorem zd_XPacker_putSign_54 : decode zb_XPacker_putSign 54 = .ok (.sipush 256, 3) := by decide +kernel
theorem zd_XPacker_putSign_57 : decode zb_XPacker_putSign 57 = .ok (.isub, 1) := by decide +kernel
theorem zd_XPacker_putSign_58 : decode zb_XPacker_putSign 58 = .ok (.bipush 7, 2) := by decide +kernel
theorem zd_XPacker_putSign_60 : decode zb_XPacker_putSign 60 = .ok (.invokevirtual 148, 3) := by decide +kernel
theorem zd_XPacker_putSign_63 : decode zb_XPacker_putSign 63 = .ok (.goto 18, 3) := by decide +kernel
theorem zd_XPacker_putSign_66 : decode zb_XPacker_putSign 66 = .ok (.aload_n 0, 1) := by decide +kernel
theorem zd_XPacker_putSign_67 : decode zb_XPacker_putSign 67 = .ok (.sipush 192, 3) := by decide +kernel
theorem zd_XPacker_putSign_70 : decode zb_XPacker_putSign 70 = .ok (.iload_n 1, 1) := by decide +kernel
theorem zd_XPacker_putSign_71 : decode zb_XPacker_putSign 71 = .ok (.iadd, 1) := by decide +kernel
theorem zd_XPacker_putSign_72 : decode zb_XPacker_putSign 72 = .ok (.sipush 280, 3) := by decide +kernel
theorem zd_XPacker_putSign_75 : decode zb_XPacker_putSign 75 = .ok (.isub, 1) := by decide +kernel
theorem zd_XPacker_putSign_76 : decode zb_XPacker_putSign 76 = .ok (.bipush 8, 2) := by decide +kernel
theorem zd_XPacker_putSign_78 : decode zb_XPacker_putSign 78 = .ok (.invokevirtual 148, 3) := by decide +kernel
theorem zd_XPacker_putSign_81 : decode zb_XPacker_putSign 81 = .ok (.return_, 1) := by decide +kernel
theorem zw_1040 : (Jvm.Cond.methodLink "OrreryBox$Packer" (148 : Nat) ({ cls := "OrreryBox$Packer", name := "putHighFirst", desc := "(II)V" } : Jvm.MethodName)) ∈ gw := gw_t 1040 (by decide +kernel) rfl
theorem zw_1042 : (Jvm.Cond.instanceMethod ({ cls := "OrreryBox$Packer", name := "putHighFirst", desc := "(II)V" } : Jvm.MethodName)) ∈ gw := gw_t 1042 (by decide +kernel) rfl
theorem zv_42 : (Jvm.Cond.selects "OrreryBox$Packer" (⟨"OrreryBox$Packer", "putHighFirst", "(II)V"⟩ : MethodName) ⟨"OrreryBox$Packer", "putHighFirst", "(II)V"⟩) ∈ gw := gw_s 42 (by decide +kernel) rfl
theorem zs_XPacker_148 : zwV "OrreryBox$Packer" 148 "OrreryBox$Packer" zy_XPacker_putHighFirst zb_XPacker_putHighFirst 4 none := ⟨zw_1040, zw_1042, zv_42, zw_3, zc_XPacker_putHighFirst⟩
def F_XPacker_putSign (sh : zSh) (mm : zMem) (o : Nat) (x0_ : Int32) : Option zMem := (if 144 ≤ x0_ then (if 256 ≤ x0_ then (if 280 ≤ x0_ then zoS (sh o) 4 (fun le5 => Option.bind (F_XPacker_putHighFirst sh mm o ((192 + x0_) - 280) 8) (fun p6 => some p6)) else zoS (sh o) 4 (fun le8 => Option.bind (F_XPacker_putHighFirst sh mm o (x0_ - 256) 7) (fun p9 => some p9))) else zoS (sh o) 4 (fun le11 => Option.bind (F_XPacker_putHighFirst sh mm o ((400 + x0_) - 144) 9) (fun p12 => some p12))) else zoS (sh o) 4 (fun le14 => Option.bind (F_XPacker_putHighFirst sh mm o (48 + x0_) 8) (fun p15 => some p15)))
set_option maxHeartbeats 4000000 in
set_option maxRecDepth 100000 in
theorem k_XPacker_putSign (l : Launch) (D : va_G) (tA : Nat → ClassId) (b : Nat) (sh : zSh) (n : Nat) {mm : zMem} {o : Nat} {x0_ : Int32} {r : zMem} (h : F_XPacker_putSign sh mm o x0_ = some r) : zM l D tA b zy_XPacker_putSign zb_XPacker_putSign 2 none 2 44 0 0 [.ref (b + o), .int x0_] (zW tA b sh mm) n (zE none (zW tA b sh r) n) := by
  unfold F_XPacker_putSign at h
  refine zM_of (own := "OrreryBox$Packer") (plainFor_of_name (by decide)) rfl (Nat.le_of_ble_eq_true rfl) (fun p e s m below meth c F hr hin hH => ?_)
  refine zr_iload_n F zd_XPacker_putSign_0 rfl ?_
  refine zr_sipushv (v := 144) F zd_XPacker_putSign_1 (by decide) ?_
  refine zr_icmp_ge F 20 zd_XPacker_putSign_4 (by decide) (fun hb1 => ?_) (fun hb1 => ?_)
  ·
    rw [if_pos hb1] at h
    refine zr_iload_n F zd_XPacker_putSign_20 rfl ?_
    refine zr_sipushv (v := 256) F zd_XPacker_putSign_21 (by decide) ?_
    refine zr_icmp_ge F 45 zd_XPacker_putSign_24 (by decide) (fun hb2 => ?_) (fun hb2 => ?_)
    ·
      rw [if_pos hb2] at h
      refine zr_iload_n F zd_XPacker_putSign_45 rfl ?_
      refine zr_pcn 46 rfl ?_
      refine zr_sipushv (v := 280) F zd_XPacker_putSign_46 (by decide) ?_
      refine zr_icmp_ge F 66 zd_XPacker_putSign_49 (by decide) (fun hb3 => ?_) (fun hb3 => ?_)
      ·
        rw [if_pos hb3] at h
        refine zr_aload_n F zd_XPacker_putSign_66 rfl ?_
        refine zr_sipushv (v := 192) F zd_XPacker_putSign_67 (by decide) ?_
        refine zr_iload_n F zd_XPacker_putSign_70 rfl ?_
        refine zr_iadd F zd_XPacker_putSign_71 ?_
        refine zr_sipushv (v := 280) F zd_XPacker_putSign_72 (by decide) ?_
        refine zr_isub F zd_XPacker_putSign_75 ?_
        refine zr_pcn 76 rfl ?_
        refine zr_bipushv (v := 8) F zd_XPacker_putSign_76 (by decide) ?_
        obtain ⟨le5, hs4, h⟩ := zoS_s h
        obtain ⟨p6, ep6, h⟩ := zoB_s h
        refine zr_callV0 F (k_XPacker_putHighFirst l D tA b sh _ ep6) zd_XPacker_putSign_78 (zW_o hs4 (by decide)) rfl zs_XPacker_148 rfl zq_XPacker_putHighFirst rfl rfl ⟨(Nat.le_of_ble_eq_true rfl), (Nat.le_of_ble_eq_true rfl)⟩ (Nat.le_of_ble_eq_true rfl) ⟨(Nat.le_of_ble_eq_true rfl), (Nat.le_of_ble_eq_true rfl)⟩ ?_
        obtain rfl := Option.some.inj h
        exact zr_vret F hr zd_XPacker_putSign_81 (Nat.le_of_ble_eq_true rfl) (Nat.le_of_ble_eq_true rfl) ⟨rfl, rfl, rfl⟩
      ·
        rw [if_neg hb3] at h
        refine zr_aload_n F zd_XPacker_putSign_52 rfl ?_
        refine zr_iload_n F zd_XPacker_putSign_53 rfl ?_
        refine zr_sipushv (v := 256) F zd_XPacker_putSign_54 (by decide) ?_
        refine zr_isub F zd_XPacker_putSign_57 ?_
        refine zr_bipushv (v := 7) F zd_XPacker_putSign_58 (by decide) ?_
        refine zr_pcn 60 rfl ?_
        obtain ⟨le8, hs7, h⟩ := zoS_s h
        obtain ⟨p9, ep9, h⟩ := zoB_s h
        refine zr_callV0 F (k_XPacker_putHighFirst l D tA b sh _ ep9) zd_XPacker_putSign_60 (zW_o hs7 (by decide)) rfl zs_XPacker_148 rfl zq_XPacker_putHighFirst rfl rfl ⟨(Nat.le_of_ble_eq_true rfl), (Nat.le_of_ble_eq_true rfl)⟩ (Nat.le_of_ble_eq_true rfl) ⟨(Nat.le_of_ble_eq_true rfl), (Nat.le_of_ble_eq_true rfl)⟩ ?_
        refine zr_goto F 81 zd_XPacker_putSign_63 (by decide) ?_
        obtain rfl := Option.some.inj h
        exact zr_vret F hr zd_XPacker_putSign_81 (Nat.le_of_ble_eq_true rfl) (Nat.le_of_ble_eq_true rfl) ⟨rfl, rfl, rfl⟩
    ·
      rw [if_neg hb2] at h
      refine zr_aload_n F zd_XPacker_putSign_27 rfl ?_
      refine zr_sipushv (v := 400) F zd_XPacker_putSign_28 (by decide) ?_
      refine zr_iload_n F zd_XPacker_putSign_31 rfl ?_
      refine zr_iadd F zd_XPacker_putSign_32 ?_
      refine zr_sipushv (v := 144) F zd_XPacker_putSign_33 (by decide) ?_
      refine zr_pcn 36 rfl ?_
      refine zr_isub F zd_XPacker_putSign_36 ?_
      refine zr_bipushv (v := 9) F zd_XPacker_putSign_37 (by decide) ?_
      obtain ⟨le11, hs10, h⟩ := zoS_s h
      obtain ⟨p12, ep12, h⟩ := zoB_s h
      refine zr_callV0 F (k_XPacker_putHighFirst l D tA b sh _ ep12) zd_XPacker_putSign_39 (zW_o hs10 (by decide)) rfl zs_XPacker_148 rfl zq_XPacker_putHighFirst rfl rfl ⟨(Nat.le_of_ble_eq_true rfl), (Nat.le_of_ble_eq_true rfl)⟩ (Nat.le_of_ble_eq_true rfl) ⟨(Nat.le_of_ble_eq_true rfl), (Nat.le_of_ble_eq_true rfl)⟩ ?_
      refine zr_goto F 81 zd_XPacker_putSign_42 (by decide) ?_
      obtain rfl := Option.some.inj h
      exact zr_vret F hr zd_XPacker_putSign_81 (Nat.le_of_ble_eq_true rfl) (Nat.le_of_ble_eq_true rfl) ⟨rfl, rfl, rfl⟩
  ·
    rw [if_neg hb1] at h
    refine zr_aload_n F zd_XPacker_putSign_7 rfl ?_
    refine zr_bipushv (v := 48) F zd_XPacker_putSign_8 (by decide) ?_
    refine zr_iload_n F zd_XPacker_putSign_10 rfl ?_
    refine zr_pcn 11 rfl ?_
    refine zr_iadd F zd_XPacker_putSign_11 ?_
    refine zr_bipushv (v := 8) F zd_XPacker_putSign_12 (by decide) ?_
    obtain ⟨le14, hs13, h⟩ := zoS_s h
    obtain ⟨p15, ep15, h⟩ := zoB_s h
    refine zr_callV0 F (k_XPacker_putHighFirst l D tA b sh _ ep15) zd_XPacker_putSign_14 (zW_o hs13 (by decide)) rfl zs_XPacker_148 rfl zq_XPacker_putHighFirst rfl rfl ⟨(Nat.le_of_ble_eq_true rfl), (Nat.le_of_ble_eq_true rfl)⟩ (Nat.le_of_ble_eq_true rfl) ⟨(Nat.le_of_ble_eq_true rfl), (Nat.le_of_ble_eq_true rfl)⟩ ?_
    refine zr_goto F 81 zd_XPacker_putSign_17 (by decide) ?_
    obtain rfl := Option.some.inj h
    exact zr_vret F hr zd_XPacker_putSign_81 (Nat.le_of_ble_eq_true rfl) (Nat.le_of_ble_eq_true rfl) ⟨rfl, rfl, rfl⟩
abbrev zb_XPacker_putLength : ByteArray := prog_5_method_21_code
def zy_XPacker_putLength : MethodName := ⟨"OrreryBox$Packer", "putLength", "(I)V"⟩
theorem zc_XPacker_putLength : Cond.code zy_XPacker_putLength zb_XPacker_putLength 4 none ∈ gw := gw_t 1035 (by decide +kernel) rfl
theorem zq_XPacker_putLength : zy_XPacker_putLength.cls ≠ "java/lang/invoke/MethodHandle" ∧ zy_XPacker_putLength.cls ≠ "java/lang/invoke/VarHandle" ∧ (parseMethodDescriptor zy_XPacker_putLength.desc).map (fun d => d.parameters.length) = some 1 := by decide +kernel
theorem zd_XPacker_putLength_0 : decode zb_XPacker_putLength 0 = .ok (.iload_n 1, 1) := by decide +kernel
theorem zd_XPacker_putLength_1 : decode zb_XPacker_putLength 1 = .ok (.bipush 11, 2) := by decide +kernel
theorem zd_XPacker_putLength_3 : decode zb_XPacker_putLength 3 = .ok (.if_icmp .ge 15, 3) := by decide +kernel
theorem zd_XPacker_putLength_6 : decode zb_XPacker_putLength 6 = .ok (.aload_n 0, 1) := by decide +kernel
theorem zd_XPacker_putLength_7 : decode zb_XPacker_putLength 7 = .ok (.sipush 257, 3) := by decide +kernel
theorem zd_XPacker_putLength_10 : decode zb_XPacker_putLength 10 = .ok (.iload_n 1, 1) := by decide +kernel
theorem zd_XPacker_putLength_11 : decode zb_XPacker_putLength 11 = .ok (.iadd, 1) := by decide +kernel
theorem zd_XPacker_putLength_12 : decode zb_XPacker_putLength 12 = .ok (.iconst 3, 1) := by decide +kernel
theorem zd_XPacker_putLength_13 : decode zb_XPacker_putLength 13 = .ok (.isub, 1) := by decide +kernel
theorem zd_XPacker_putLength_14 : decode zb_XPacker_putLength 14 = .ok (.invokevirtual 136, 3) := by decide +kernel
theorem zd_XPacker_putLength_17 : decode zb_XPacker_putLength 17 = .ok (.return_, 1) := by decide +kernel
theorem zd_XPacker_putLength_18 : decode zb_XPacker_putLength 18 = .ok (.iload_n 1, 1) := by decide +kernel
theorem zd_XPacker_putLength_19 : decode zb_XPacker_putLength 19 = .ok (.sipush 258, 3) := by decide +kernel
theorem zd_XPacker_putLength_22 : decode zb_XPacker_putLength 22 = .ok (.if_icmp .ne 11, 3) := by decide +kernel
theorem zd_XPacker_putLength_25 : decode zb_XPacker_putLength 25 = .ok (.aload_n 0, 1) := by decide +kernel
theorem zd_XPacker_putLength_26 : decode zb_XPacker_putLength 26 = .ok (.sipush 285, 3) := by decide +kernel
theorem zd_XPacker_putLength_29 : decode zb_XPacker_putLength 29 = .ok (.invokevirtual 136, 3) := by decide +kernel
theorem zd_XPacker_putLength_32 : decode zb_XPacker_putLength 32 = .ok (.return_, 1) := by decide +kernel
theorem zd_XPacker_putLength_33 : decode zb_XPacker_putLength 33 = .ok (.iconst 1, 1) := by decide +kernel
theorem zd_XPacker_putLength_34 : decode zb_XPacker_putLength 34 = .ok (.istore_n 2, 1) := by decide +kernel
theorem zd_XPacker_putLength_35 : decode zb_XPacker_putLength 35 = .ok (.bipush 11, 2) := by decide +kernel
theorem zd_XPacker_putLength_37 : decode zb_XPacker_putLength 37 = .ok (.istore_n 3, 1) := by decide +kernel
theorem zd_XPacker_putLength_38 : decode zb_XPacker_putLength 38 = .ok (.iload_n 2, 1) := by decide +kernel
theorem zd_XPacker_putLength_39 : decode zb_XPacker_putLength 39 = .ok (.iconst 5, 1) := by decide +kernel
theorem zd_XPacker_putLength_40 : decode zb_XPacker_putLength 40 = .ok (.if_icmp .ge 24, 3) := by decide +kernel
theorem zd_XPacker_putLength_43 : decode zb_XPacker_putLength 43 = .ok (.iload_n 1, 1) := by decide +kernel
theorem zd_XPacker_putLength_44 : decode zb_XPacker_putLength 44 = .ok (.iload_n 3, 1) := by decide +kernel
theorem zd_XPacker_putLength_45 : decode zb_XPacker_putLength 45 = .ok (.iconst 4, 1) := by decide +kernel
theorem zd_XPacker_putLength_46 : decode zb_XPacker_putLength 46 = .ok (.iload_n 2, 1) := by decide +kernel
theorem zd_XPacker_putLength_47 : decode zb_XPacker_putLength 47 = .ok (.ishl, 1) := by decide +kernel
theorem zd_XPacker_putLength_48 : decode zb_XPacker_putLength 48 = .ok (.iadd, 1) := by decide +kernel
theorem zd_XPacker_putLength_49 : decode zb_XPacker_putLength 49 = .ok (.if_icmp .lt 15, 3) := by decide +kernel
theorem zd_XPacker_putLength_52 : decode zb_XPacker_putLength 52 = .ok (.iload_n 3, 1) := by decide +kernel
theorem zd_XPacker_putLength_53 : decode zb_XPacker_putLength 53 = .ok (.iconst 4, 1) := by decide +kernel
theorem zd_XPacker_putLength_54 : decode zb_XPacker_putLength 54 = .ok (.iload_n 2, 1) := by decide +kernel
theorem zd_XPacker_putLength_55 : decode zb_XPacker_putLength 55 = .ok (.ishl, 1) := by decide +kernel
theorem zd_XPacker_putLength_56 : decode zb_XPacker_putLength 56 = .ok (.iadd, 1) := by decide +kernel
theorem zd_XPacker_putLength_57 : decode zb_XPacker_putLength 57 = .ok (.istore_n 3, 1) := by decide +kernel
theorem zd_XPacker_putLength_58 : decode zb_XPacker_putLength 58 = .ok (.iinc 2 1, 3) := by decide +kernel
theorem zd_XPacker_putLength_61 : decode zb_XPacker_putLength 61 = .ok (.goto (-23), 3) := by decide +kernel
theorem zd_XPacker_putLength_64 : decode zb_XPacker_putLength 64 = .ok (.aload_n 0, 1) := by decide +kernel
theorem zd_XPacker_putLength_65 : decode zb_XPacker_putLength 65 = .ok (.sipush 261, 3) := by decide +kernel
theorem zd_XPacker_putLength_68 : decode zb_XPacker_putLength 68 = .ok (.iconst 4, 1) := by decide +kernel
theorem zd_XPacker_putLength_69 : decode zb_XPacker_putLength 69 = .ok (.iload_n 2, 1) := by decide +kernel
theorem zd_XPacker_putLength_70 : decode zb_XPacker_putLength 70 = .ok (.imul, 1) := by decide +kernel
theorem zd_XPacker_putLength_71 : decode zb_XPacker_putLength 71 = .ok (.iadd, 1) := by decide +kernel
theorem zd_XPacker_putLength_72 : decode zb_XPacker_putLength 72 = .ok (.iload_n 1, 1) := by decide +kernel
theorem zd_XPacker_putLength_73 : decode zb_XPacker_putLength 73 = .ok (.iload_n 3, 1) := by decide +kernel
theorem zd_XPacker_putLength_74 : decode zb_XPacker_putLength 74 = .ok (.isub, 1) := by decide +kernel
theorem zd_XPacker_putLength_75 : decode zb_XPacker_putLength 75 = .ok (.iload_n 2, 1) := by decide +kernel
theorem zd_XPacker_putLength_76 : decode zb_XPacker_putLength 76 = .ok (.ishr, 1) := by decide +kernel
theorem zd_XPacker_putLength_77 : decode zb_XPacker_putLength 77 = .ok (.iadd, 1) := by decide +kernel
theorem zd_XPacker_putLength_78 : decode zb_XPacker_putLength 78 = .ok (.invokevirtual 136, 3) := by decide +kernel
theorem zd_XPacker_putLength_81 : decode zb_XPacker_putLength 81 = .ok (.aload_n 0, 1) := by decide +kernel
theorem zd_XPacker_putLength_82 : decode zb_XPacker_putLength 82 = .ok (.iload_n 1, 1) := by decide +kernel
theorem zd_XPacker_putLength_83 : decode zb_XPacker_putLength 83 = .ok (.iload_n 3, 1) := by decide +kernel
theorem zd_XPacker_putLength_84 : decode zb_XPacker_putLength 84 = .ok (.isub, 1) := by decide +kernel
theorem zd_XPacker_putLength_85 : decode zb_XPacker_putLength 85 = .ok (.iload_n 2, 1) := by decide +kernel
theorem zd_XPacker_putLength_86 : decode zb_XPacker_putLength 86 = .ok (.invokevirtual 118, 3) := by decide +kernel
theorem zd_XPacker_putLength_89 : decode zb_XPacker_putLength 89 = .ok (.return_, 1) := by decide +kernel
def L_XPacker_putLength_38 (sh : zSh) (fuel : Nat) (v0 : Nat) (v1 : Int32) (v2 : Int32) (v3 : Int32) (mm : zMem) : Option (Nat × Int32 × Int32 × Int32 × zMem) := match fuel with
  | 0 => none
  | fu + 1 => (if 5 ≤ v2 then some (v0, v1, v2, v3, mm) else (if v1 < (v3 + (4 <<< (v2 &&& 31))) then some (v0, v1, v2, v3, mm) else zoL (v3 + (4 <<< (v2 &&& 31))) (fun x5 => L_XPacker_putLength_38 sh fu v0 v1 (v2 + 1) x5 mm)))
set_option maxHeartbeats 4000000 in
set_option maxRecDepth 100000 in
theorem lp_XPacker_putLength_38 {p : Program} {l : Launch} {e : Env} {s : State} {m : MethodId} {args : Array Value} {below : List Frame} {meth : Method} {c : Code} {D : va_G} {tA : Nat → ClassId} {b n : Nat} {post : Option Value → zV → Nat → Prop} {sh : zSh} (F : zF p s m args meth c zb_XPacker_putLength 4 "OrreryBox$Packer" D tA b) : ∀ (fuel : Nat) (v0 : Nat) (v1 : Int32) (v2 : Int32) (v3 : Int32) (mm : zMem) (r : Nat × Int32 × Int32 × Int32 × zMem), L_XPacker_putLength_38 sh fuel v0 v1 v2 v3 mm = some r → (Z p l e { frames := 3, cells := 0, slots := 0, locals := 65 } s m args below meth c D b 4 (MQ below (zQ D b post) args s 0 0 (fun q => b ≤ q)) (zW tA b sh r.2.2.2.2) n 0 0 64 [(0, .ref (b + (r.1))), (1, .int (r.2.1)), (2, .int (r.2.2.1)), (3, .int (r.2.2.2.1))] []) → Z p l e { frames := 3, cells := 0, slots := 0, locals := 65 } s m args below meth c D b 4 (MQ below (zQ D b post) args s 0 0 (fun q => b ≤ q)) (zW tA b sh mm) n 0 0 38 [(0, .ref (b + v0)), (1, .int v1), (2, .int v2), (3, .int v3)] [] := by
  intro fuel
  induction fuel with
  | zero =>
    intro v0 v1 v2 v3 mm r h
    cases h
  | succ fu ih =>
    intro v0 v1 v2 v3 mm r h hx0
    rw [L_XPacker_putLength_38] at h
    refine zr_iload_n F zd_XPacker_putLength_38 rfl ?_
    refine zr_iconstv (v := 5) F zd_XPacker_putLength_39 (by decide) ?_
    refine zr_icmp_ge F 64 zd_XPacker_putLength_40 (by decide) (fun hb3 => ?_) (fun hb3 => ?_)
    ·
      rw [if_pos hb3] at h
      obtain rfl := Option.some.inj h
      refine zr_loc (L' := [(0, .ref (b + v0)), (1, .int v1), (2, .int v2), (3, .int v3)]) ⟨rfl, rfl, rfl, rfl, trivial⟩ ?_
      exact hx0 
    ·
      rw [if_neg hb3] at h
      refine zr_iload_n F zd_XPacker_putLength_43 rfl ?_
      refine zr_iload_n F zd_XPacker_putLength_44 rfl ?_
      refine zr_pcn 45 rfl ?_
      refine zr_iconstv (v := 4) F zd_XPacker_putLength_45 (by decide) ?_
      refine zr_iload_n F zd_XPacker_putLength_46 rfl ?_
      refine zr_ishl F zd_XPacker_putLength_47 ?_
      refine zr_iadd F zd_XPacker_putLength_48 ?_
      refine zr_icmp_lt F 64 zd_XPacker_putLength_49 (by decide) (fun hb4 => ?_) (fun hb4 => ?_)
      ·
        rw [if_pos hb4] at h
        obtain rfl := Option.some.inj h
        refine zr_loc (L' := [(0, .ref (b + v0)), (1, .int v1), (2, .int v2), (3, .int v3)]) ⟨rfl, rfl, rfl, rfl, trivial⟩ ?_
        exact hx0 
      ·
        rw [if_neg hb4] at h
        refine zr_iload_n F zd_XPacker_putLength_52 rfl ?_
        refine zr_iconstv (v := 4) F zd_XPacker_putLength_53 (by decide) ?_
        refine zr_iload_n F zd_XPacker_putLength_54 rfl ?_
        refine zr_pcn 55 rfl ?_
        refine zr_ishl F zd_XPacker_putLength_55 ?_
        refine zr_iadd F zd_XPacker_putLength_56 ?_
        obtain ⟨x5, ex5, h⟩ := zoL_s h
        rw [← ex5]
        refine zr_istore_n F zd_XPacker_putLength_57 (by decide) ?_
        refine zr_iinc (v := (v2 + 1)) F zd_XPacker_putLength_58 rfl rfl (by decide) ?_
        refine zr_goto F 38 zd_XPacker_putLength_61 (by decide) ?_
        refine zr_loc (L' := [(0, .ref (b + v0)), (1, .int v1), (2, .int (v2 + 1)), (3, .int x5)]) ⟨rfl, rfl, rfl, rfl, trivial⟩ ?_
        exact ih _ _ _ _ _ _ h hx0
theorem zw_1036 : (Jvm.Cond.methodLink "OrreryBox$Packer" (136 : Nat) ({ cls := "OrreryBox$Packer", name := "putSign", desc := "(I)V" } : Jvm.MethodName)) ∈ gw := gw_t 1036 (by decide +kernel) rfl
theorem zw_1038 : (Jvm.Cond.instanceMethod ({ cls := "OrreryBox$Packer", name := "putSign", desc := "(I)V" } : Jvm.MethodName)) ∈ gw := gw_t 1038 (by decide +kernel) rfl
theorem zv_41 : (Jvm.Cond.selects "OrreryBox$Packer" (⟨"OrreryBox$Packer", "putSign", "(I)V"⟩ : MethodName) ⟨"OrreryBox$Packer", "putSign", "(I)V"⟩) ∈ gw := gw_s 41 (by decide +kernel) rfl
theorem zs_XPacker_136 : zwV "OrreryBox$Packer" 136 "OrreryBox$Packer" zy_XPacker_putSign zb_XPacker_putSign 2 none := ⟨zw_1036, zw_1038, zv_41, zw_3, zc_XPacker_putSign⟩
theorem zw_1012 : (Jvm.Cond.methodLink "OrreryBox$Packer" (118 : Nat) ({ cls := "OrreryBox$Packer", name := "putLowFirst", desc := "(II)V" } : Jvm.MethodName)) ∈ gw := gw_t 1012 (by decide +kernel) rfl
theorem zw_1014 : (Jvm.Cond.instanceMethod ({ cls := "OrreryBox$Packer", name := "putLowFirst", desc := "(II)V" } : Jvm.MethodName)) ∈ gw := gw_t 1014 (by decide +kernel) rfl
theorem zv_35 : (Jvm.Cond.selects "OrreryBox$Packer" (⟨"OrreryBox$Packer", "putLowFirst", "(II)V"⟩ : MethodName) ⟨"OrreryBox$Packer", "putLowFirst", "(II)V"⟩) ∈ gw := gw_s 35 (by decide +kernel) rfl
theorem zs_XPacker_118 : zwV "OrreryBox$Packer" 118 "OrreryBox$Packer" zy_XPacker_putLowFirst zb_XPacker_putLowFirst 4 none := ⟨zw_1012, zw_1014, zv_35, zw_3, zc_XPacker_putLowFirst⟩
def F_XPacker_putLength (sh : zSh) (mm : zMem) (o : Nat) (x0_ : Int32) : Option zMem := (if 11 ≤ x0_ then (if x0_ = 258 then zoS (sh o) 4 (fun le15 => Option.bind (F_XPacker_putSign sh mm o 285) (fun p16 => some p16)) else Option.bind (L_XPacker_putLength_38 sh zfuel o x0_ 1 11 mm) (fun q6 => zoS (sh (q6.1)) 4 (fun le8 => zoL ((261 + (4 * q6.2.2.1)) + ((q6.2.1 - q6.2.2.2.1) >>> (q6.2.2.1 &&& 31))) (fun x9 => Option.bind (F_XPacker_putSign sh (q6.2.2.2.2) (q6.1) x9) (fun p10 => zoS (sh (q6.1)) 4 (fun le12 => Option.bind (F_XPacker_putLowFirst sh p10 (q6.1) (q6.2.1 - q6.2.2.2.1) (q6.2.2.1)) (fun p13 => some p13))))))) else zoS (sh o) 4 (fun le18 => Option.bind (F_XPacker_putSign sh mm o ((257 + x0_) - 3)) (fun p19 => some p19)))
set_option maxHeartbeats 4000000 in
set_option maxRecDepth 100000 in
theorem k_XPacker_putLength (l : Launch) (D : va_G) (tA : Nat → ClassId) (b : Nat) (sh : zSh) (n : Nat) {mm : zMem} {o : Nat} {x0_ : Int32} {r : zMem} (h : F_XPacker_putLength sh mm o x0_ = some r) : zM l D tA b zy_XPacker_putLength zb_XPacker_putLength 4 none 3 65 0 0 [.ref (b + o), .int x0_] (zW tA b sh mm) n (zE none (zW tA b sh r) n) := by
  unfold F_XPacker_putLength at h
  refine zM_of (own := "OrreryBox$Packer") (plainFor_of_name (by decide)) rfl (Nat.le_of_ble_eq_true rfl) (fun p e s m below meth c F hr hin hH => ?_)
  refine zr_iload_n F zd_XPacker_putLength_0 rfl ?_
  refine zr_bipushv (v := 11) F zd_XPacker_putLength_1 (by decide) ?_
  refine zr_icmp_ge F 18 zd_XPacker_putLength_3 (by decide) (fun hb1 => ?_) (fun hb1 => ?_)
  ·
    rw [if_pos hb1] at h
    refine zr_iload_n F zd_XPacker_putLength_18 rfl ?_
    refine zr_sipushv (v := 258) F zd_XPacker_putLength_19 (by decide) ?_
    refine zr_icmp_ne F 33 zd_XPacker_putLength_22 (by decide) (fun hb2 => ?_) (fun hb2 => ?_)
    ·
      rw [if_neg hb2] at h
      refine zr_iconstv (v := 1) F zd_XPacker_putLength_33 (by decide) ?_
      refine zr_pcn 34 rfl ?_
      refine zr_istore_n F zd_XPacker_putLength_34 (by decide) ?_
      refine zr_bipushv (v := 11) F zd_XPacker_putLength_35 (by decide) ?_
      refine zr_istore_n F zd_XPacker_putLength_37 (by decide) ?_
      obtain ⟨q6, eq6, h⟩ := zoB_s h
      refine zr_loc (L' := [(0, .ref (b + o)), (1, .int x0_), (2, .int 1), (3, .int 11)]) ⟨rfl, rfl, rfl, rfl, trivial⟩ ?_
      refine lp_XPacker_putLength_38 F _ _ _ _ _ _ _ eq6 ?_
      ·
        refine zr_aload_n F zd_XPacker_putLength_64 rfl ?_
        refine zr_sipushv (v := 261) F zd_XPacker_putLength_65 (by decide) ?_
        refine zr_iconstv (v := 4) F zd_XPacker_putLength_68 (by decide) ?_
        refine zr_pcn 69 rfl ?_
        refine zr_iload_n F zd_XPacker_putLength_69 rfl ?_
        refine zr_imul F zd_XPacker_putLength_70 ?_
        refine zr_iadd F zd_XPacker_putLength_71 ?_
        refine zr_iload_n F zd_XPacker_putLength_72 rfl ?_
        refine zr_iload_n F zd_XPacker_putLength_73 rfl ?_
        refine zr_isub F zd_XPacker_putLength_74 ?_
        refine zr_iload_n F zd_XPacker_putLength_75 rfl ?_
        refine zr_ishr F zd_XPacker_putLength_76 ?_
        refine zr_pcn 77 rfl ?_
        refine zr_iadd F zd_XPacker_putLength_77 ?_
        obtain ⟨le8, hs7, h⟩ := zoS_s h
        obtain ⟨x9, ex9, h⟩ := zoL_s h
        rw [← ex9]
        obtain ⟨p10, ep10, h⟩ := zoB_s h
        refine zr_callV0 F (k_XPacker_putSign l D tA b sh _ ep10) zd_XPacker_putLength_78 (zW_o hs7 (by decide)) rfl zs_XPacker_136 rfl zq_XPacker_putSign rfl rfl ⟨(Nat.le_of_ble_eq_true rfl), (Nat.le_of_ble_eq_true rfl)⟩ (Nat.le_of_ble_eq_true rfl) ⟨(Nat.le_of_ble_eq_true rfl), (Nat.le_of_ble_eq_true rfl)⟩ ?_
        refine zr_aload_n F zd_XPacker_putLength_81 rfl ?_
        refine zr_iload_n F zd_XPacker_putLength_82 rfl ?_
        refine zr_iload_n F zd_XPacker_putLength_83 rfl ?_
        refine zr_isub F zd_XPacker_putLength_84 ?_
        refine zr_iload_n F zd_XPacker_putLength_85 rfl ?_
        obtain ⟨le12, hs11, h⟩ := zoS_s h
        obtain ⟨p13, ep13, h⟩ := zoB_s h
        refine zr_callV0 F (k_XPacker_putLowFirst l D tA b sh _ ep13) zd_XPacker_putLength_86 (zW_o hs11 (by decide)) rfl zs_XPacker_118 rfl zq_XPacker_putLowFirst rfl rfl ⟨(Nat.le_of_ble_eq_true rfl), (Nat.le_of_ble_eq_true rfl)⟩ (Nat.le_of_ble_eq_true rfl) ⟨(Nat.le_of_ble_eq_true rfl), (Nat.le_of_ble_eq_true rfl)⟩ ?_
        refine zr_pcn 89 rfl ?_
        obtain rfl := Option.some.inj h
        exact zr_vret F hr zd_XPacker_putLength_89 (Nat.le_of_ble_eq_true rfl) (Nat.le_of_ble_eq_true rfl) ⟨rfl, rfl, rfl⟩
    ·
      rw [if_pos hb2] at h
      refine zr_aload_n F zd_XPacker_putLength_25 rfl ?_
      refine zr_sipushv (v := 285) F zd_XPacker_putLength_26 (by decide) ?_
      obtain ⟨le15, hs14, h⟩ := zoS_s h
      obtain ⟨p16, ep16, h⟩ := zoB_s h
      refine zr_callV0 F (k_XPacker_putSign l D tA b sh _ ep16) zd_XPacker_putLength_29 (zW_o hs14 (by decide)) rfl zs_XPacker_136 rfl zq_XPacker_putSign rfl rfl ⟨(Nat.le_of_ble_eq_true rfl), (Nat.le_of_ble_eq_true rfl)⟩ (Nat.le_of_ble_eq_true rfl) ⟨(Nat.le_of_ble_eq_true rfl), (Nat.le_of_ble_eq_true rfl)⟩ ?_
      obtain rfl := Option.some.inj h
      exact zr_vret F hr zd_XPacker_putLength_32 (Nat.le_of_ble_eq_true rfl) (Nat.le_of_ble_eq_true rfl) ⟨rfl, rfl, rfl⟩
  ·
    rw [if_neg hb1] at h
    refine zr_aload_n F zd_XPacker_putLength_6 rfl ?_
    refine zr_sipushv (v := 257) F zd_XPacker_putLength_7 (by decide) ?_
    refine zr_iload_n F zd_XPacker_putLength_10 rfl ?_
    refine zr_pcn 11 rfl ?_
    refine zr_iadd F zd_XPacker_putLength_11 ?_
    refine zr_iconstv (v := 3) F zd_XPacker_putLength_12 (by decide) ?_
    refine zr_isub F zd_XPacker_putLength_13 ?_
    obtain ⟨le18, hs17, h⟩ := zoS_s h
    obtain ⟨p19, ep19, h⟩ := zoB_s h
    refine zr_callV0 F (k_XPacker_putSign l D tA b sh _ ep19) zd_XPacker_putLength_14 (zW_o hs17 (by decide)) rfl zs_XPacker_136 rfl zq_XPacker_putSign rfl rfl ⟨(Nat.le_of_ble_eq_true rfl), (Nat.le_of_ble_eq_true rfl)⟩ (Nat.le_of_ble_eq_true rfl) ⟨(Nat.le_of_ble_eq_true rfl), (Nat.le_of_ble_eq_true rfl)⟩ ?_
    obtain rfl := Option.some.inj h
    exact zr_vret F hr zd_XPacker_putLength_17 (Nat.le_of_ble_eq_true rfl) (Nat.le_of_ble_eq_true rfl) ⟨rfl, rfl, rfl⟩
