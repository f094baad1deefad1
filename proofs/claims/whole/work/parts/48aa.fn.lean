abbrev zb_XSight_standPoints : ByteArray := prog_10_method_11_code
def zy_XSight_standPoints : MethodName := ⟨"OrreryBox$Sight", "standPoints", "(LOrreryBox$Mesh;)V"⟩
theorem zc_XSight_standPoints : Cond.code zy_XSight_standPoints zb_XSight_standPoints 9 none ∈ gw := gw_t 709 (by decide +kernel) rfl
theorem zq_XSight_standPoints : zy_XSight_standPoints.cls ≠ "java/lang/invoke/MethodHandle" ∧ zy_XSight_standPoints.cls ≠ "java/lang/invoke/VarHandle" ∧ (parseMethodDescriptor zy_XSight_standPoints.desc).map (fun d => d.parameters.length) = some 1 := by decide +kernel
theorem zd_XSight_standPoints_0 : decode zb_XSight_standPoints 0 = .ok (.aload_n 0, 1) := by decide +kernel
theorem zd_XSight_standPoints_1 : decode zb_XSight_standPoints 1 = .ok (.getfield 30, 3) := by decide +kernel
theorem zd_XSight_standPoints_4 : decode zb_XSight_standPoints 4 = .ok (.aload_n 0, 1) := by decide +kernel
theorem zd_XSight_standPoints_5 : decode zb_XSight_standPoints 5 = .ok (.getfield 33, 3) := by decide +kernel
theorem zd_XSight_standPoints_8 : decode zb_XSight_standPoints 8 = .ok (.aload_n 0, 1) := by decide +kernel
theorem zd_XSight_standPoints_9 : decode zb_XSight_standPoints 9 = .ok (.getfield 56, 3) := by decide +kernel
theorem zd_XSight_standPoints_12 : decode zb_XSight_standPoints 12 = .ok (.iaload, 1) := by decide +kernel
theorem zd_XSight_standPoints_13 : decode zb_XSight_standPoints 13 = .ok (.aaload, 1) := by decide +kernel
theorem zd_XSight_standPoints_14 : decode zb_XSight_standPoints 14 = .ok (.astore_n 2, 1) := by decide +kernel
theorem zd_XSight_standPoints_15 : decode zb_XSight_standPoints 15 = .ok (.aload_n 0, 1) := by decide +kernel
theorem zd_XSight_standPoints_16 : decode zb_XSight_standPoints 16 = .ok (.getfield 49, 3) := by decide +kernel
theorem zd_XSight_standPoints_19 : decode zb_XSight_standPoints 19 = .ok (.getfield 76, 3) := by decide +kernel
theorem zd_XSight_standPoints_22 : decode zb_XSight_standPoints 22 = .ok (.aload_n 0, 1) := by decide +kernel
theorem zd_XSight_standPoints_23 : decode zb_XSight_standPoints 23 = .ok (.getfield 33, 3) := by decide +kernel
theorem zd_XSight_standPoints_26 : decode zb_XSight_standPoints 26 = .ok (.aload_n 0, 1) := by decide +kernel
theorem zd_XSight_standPoints_27 : decode zb_XSight_standPoints 27 = .ok (.getfield 56, 3) := by decide +kernel
theorem zd_XSight_standPoints_30 : decode zb_XSight_standPoints 30 = .ok (.iaload, 1) := by decide +kernel
theorem zd_XSight_standPoints_31 : decode zb_XSight_standPoints 31 = .ok (.aaload, 1) := by decide +kernel
theorem zd_XSight_standPoints_32 : decode zb_XSight_standPoints 32 = .ok (.getfield 89, 3) := by decide +kernel
theorem zd_XSight_standPoints_35 : decode zb_XSight_standPoints 35 = .ok (.astore_n 3, 1) := by decide +kernel
theorem zd_XSight_standPoints_36 : decode zb_XSight_standPoints 36 = .ok (.aload_n 1, 1) := by decide +kernel
theorem zd_XSight_standPoints_37 : decode zb_XSight_standPoints 37 = .ok (.getfield 164, 3) := by decide +kernel
theorem zd_XSight_standPoints_40 : decode zb_XSight_standPoints 40 = .ok (.astore 4, 2) := by decide +kernel
theorem zd_XSight_standPoints_42 : decode zb_XSight_standPoints 42 = .ok (.iconst 0, 1) := by decide +kernel
theorem zd_XSight_standPoints_43 : decode zb_XSight_standPoints 43 = .ok (.istore 5, 2) := by decide +kernel
theorem zd_XSight_standPoints_45 : decode zb_XSight_standPoints 45 = .ok (.iload 5, 2) := by decide +kernel
theorem zd_XSight_standPoints_47 : decode zb_XSight_standPoints 47 = .ok (.aload_n 1, 1) := by decide +kernel
theorem zd_XSight_standPoints_48 : decode zb_XSight_standPoints 48 = .ok (.getfield 167, 3) := by decide +kernel
theorem zd_XSight_standPoints_51 : decode zb_XSight_standPoints 51 = .ok (.if_icmp .ge 111, 3) := by decide +kernel
theorem zd_XSight_standPoints_54 : decode zb_XSight_standPoints 54 = .ok (.iconst 0, 1) := by decide +kernel
theorem zd_XSight_standPoints_55 : decode zb_XSight_standPoints 55 = .ok (.istore 6, 2) := by decide +kernel
theorem zd_XSight_standPoints_57 : decode zb_XSight_standPoints 57 = .ok (.iload 6, 2) := by decide +kernel
theorem zd_XSight_standPoints_59 : decode zb_XSight_standPoints 59 = .ok (.iconst 3, 1) := by decide +kernel
theorem zd_XSight_standPoints_60 : decode zb_XSight_standPoints 60 = .ok (.if_icmp .ge 72, 3) := by decide +kernel
theorem zd_XSight_standPoints_63 : decode zb_XSight_standPoints 63 = .ok (.aload_n 2, 1) := by decide +kernel
theorem zd_XSight_standPoints_64 : decode zb_XSight_standPoints 64 = .ok (.iload 6, 2) := by decide +kernel
theorem zd_XSight_standPoints_66 : decode zb_XSight_standPoints 66 = .ok (.aload 4, 2) := by decide +kernel
theorem zd_XSight_standPoints_68 : decode zb_XSight_standPoints 68 = .ok (.iconst 3, 1) := by decide +kernel
theorem zd_XSight_standPoints_69 : decode zb_XSight_standPoints 69 = .ok (.iload 5, 2) := by decide +kernel
theorem zd_XSight_standPoints_71 : decode zb_XSight_standPoints 71 = .ok (.imul, 1) := by decide +kernel
theorem zd_XSight_standPoints_72 : decode zb_XSight_standPoints 72 = .ok (.iaload, 1) := by decide +kernel
theorem zd_XSight_standPoints_73 : decode zb_XSight_standPoints 73 = .ok (.i2l, 1) := by decide +kernel
theorem zd_XSight_standPoints_74 : decode zb_XSight_standPoints 74 = .ok (.aload 4, 2) := by decide +kernel
theorem zd_XSight_standPoints_76 : decode zb_XSight_standPoints 76 = .ok (.iconst 3, 1) := by decide +kernel
theorem zd_XSight_standPoints_77 : decode zb_XSight_standPoints 77 = .ok (.iload 5, 2) := by decide +kernel
theorem zd_XSight_standPoints_79 : decode zb_XSight_standPoints 79 = .ok (.imul, 1) := by decide +kernel
theorem zd_XSight_standPoints_80 : decode zb_XSight_standPoints 80 = .ok (.iconst 1, 1) := by decide +kernel
theorem zd_XSight_standPoints_81 : decode zb_XSight_standPoints 81 = .ok (.iadd, 1) := by decide +kernel
theorem zd_XSight_standPoints_82 : decode zb_XSight_standPoints 82 = .ok (.iaload, 1) := by decide +kernel
theorem zd_XSight_standPoints_83 : decode zb_XSight_standPoints 83 = .ok (.i2l, 1) := by decide +kernel
theorem zd_XSight_standPoints_84 : decode zb_XSight_standPoints 84 = .ok (.aload 4, 2) := by decide +kernel
theorem zd_XSight_standPoints_86 : decode zb_XSight_standPoints 86 = .ok (.iconst 3, 1) := by decide +kernel
theorem zd_XSight_standPoints_87 : decode zb_XSight_standPoints 87 = .ok (.iload 5, 2) := by decide +kernel
theorem zd_XSight_standPoints_89 : decode zb_XSight_standPoints 89 = .ok (.imul, 1) := by decide +kernel
theorem zd_XSight_standPoints_90 : decode zb_XSight_standPoints 90 = .ok (.iconst 2, 1) := by decide +kernel
theorem zd_XSight_standPoints_91 : decode zb_XSight_standPoints 91 = .ok (.iadd, 1) := by decide +kernel
theorem zd_XSight_standPoints_92 : decode zb_XSight_standPoints 92 = .ok (.iaload, 1) := by decide +kernel
theorem zd_XSight_standPoints_93 : decode zb_XSight_standPoints 93 = .ok (.i2l, 1) := by decide +kernel
theorem zd_XSight_standPoints_94 : decode zb_XSight_standPoints 94 = .ok (.invokestatic 113, 3) := by decide +kernel
theorem zd_XSight_standPoints_97 : decode zb_XSight_standPoints 97 = .ok (.lstore 7, 2) := by decide +kernel
theorem zd_XSight_standPoints_99 : decode zb_XSight_standPoints 99 = .ok (.aload_n 0, 1) := by decide +kernel
theorem zd_XSight_standPoints_100 : decode zb_XSight_standPoints 100 = .ok (.getfield 36, 3) := by decide +kernel
theorem zd_XSight_standPoints_103 : decode zb_XSight_standPoints 103 = .ok (.iconst 4, 1) := by decide +kernel
theorem zd_XSight_standPoints_104 : decode zb_XSight_standPoints 104 = .ok (.iload 5, 2) := by decide +kernel
theorem zd_XSight_standPoints_106 : decode zb_XSight_standPoints 106 = .ok (.imul, 1) := by decide +kernel
theorem zd_XSight_standPoints_107 : decode zb_XSight_standPoints 107 = .ok (.iload 6, 2) := by decide +kernel
theorem zd_XSight_standPoints_109 : decode zb_XSight_standPoints 109 = .ok (.iadd, 1) := by decide +kernel
theorem zd_XSight_standPoints_110 : decode zb_XSight_standPoints 110 = .ok (.lload 7, 2) := by decide +kernel
theorem zd_XSight_standPoints_112 : decode zb_XSight_standPoints 112 = .ok (.aload_n 2, 1) := by decide +kernel
theorem zd_XSight_standPoints_113 : decode zb_XSight_standPoints 113 = .ok (.iconst 4, 1) := by decide +kernel
theorem zd_XSight_standPoints_114 : decode zb_XSight_standPoints 114 = .ok (.iload 6, 2) := by decide +kernel
theorem zd_XSight_standPoints_116 : decode zb_XSight_standPoints 116 = .ok (.imul, 1) := by decide +kernel
theorem zd_XSight_standPoints_117 : decode zb_XSight_standPoints 117 = .ok (.iconst 3, 1) := by decide +kernel
theorem zd_XSight_standPoints_118 : decode zb_XSight_standPoints 118 = .ok (.iadd, 1) := by decide +kernel
theorem zd_XSight_standPoints_119 : decode zb_XSight_standPoints 119 = .ok (.iaload, 1) := by decide +kernel
theorem zd_XSight_standPoints_120 : decode zb_XSight_standPoints 120 = .ok (.i2l, 1) := by decide +kernel
theorem zd_XSight_standPoints_121 : decode zb_XSight_standPoints 121 = .ok (.ladd, 1) := by decide +kernel
theorem zd_XSight_standPoints_122 : decode zb_XSight_standPoints 122 = .ok (.invokestatic 117, 3) := by decide +kernel
theorem zd_XSight_standPoints_125 : decode zb_XSight_standPoints 125 = .ok (.iastore, 1) := by decide +kernel
theorem zd_XSight_standPoints_126 : decode zb_XSight_standPoints 126 = .ok (.iinc 6 1, 3) := by decide +kernel
theorem zd_XSight_standPoints_129 : decode zb_XSight_standPoints 129 = .ok (.goto (-72), 3) := by decide +kernel
theorem zd_XSight_standPoints_132 : decode zb_XSight_standPoints 132 = .ok (.aload_n 0, 1) := by decide +kernel
theorem zd_XSight_standPoints_133 : decode zb_XSight_standPoints 133 = .ok (.getfield 36, 3) := by decide +kernel
theorem zd_XSight_standPoints_136 : decode zb_XSight_standPoints 136 = .ok (.iconst 4, 1) := by decide +kernel
theorem zd_XSight_standPoints_137 : decode zb_XSight_standPoints 137 = .ok (.iload 5, 2) := by decide +kernel
theorem zd_XSight_standPoints_139 : decode zb_XSight_standPoints 139 = .ok (.imul, 1) := by decide +kernel
theorem zd_XSight_standPoints_140 : decode zb_XSight_standPoints 140 = .ok (.iconst 3, 1) := by decide +kernel
theorem zd_XSight_standPoints_141 : decode zb_XSight_standPoints 141 = .ok (.iadd, 1) := by decide +kernel
theorem zd_XSight_standPoints_142 : decode zb_XSight_standPoints 142 = .ok (.aload_n 0, 1) := by decide +kernel
theorem zd_XSight_standPoints_143 : decode zb_XSight_standPoints 143 = .ok (.aload_n 3, 1) := by decide +kernel
theorem zd_XSight_standPoints_144 : decode zb_XSight_standPoints 144 = .ok (.aload_n 1, 1) := by decide +kernel
theorem zd_XSight_standPoints_145 : decode zb_XSight_standPoints 145 = .ok (.getfield 170, 3) := by decide +kernel
theorem zd_XSight_standPoints_148 : decode zb_XSight_standPoints 148 = .ok (.iconst 3, 1) := by decide +kernel
theorem zd_XSight_standPoints_149 : decode zb_XSight_standPoints 149 = .ok (.iload 5, 2) := by decide +kernel
theorem zd_XSight_standPoints_151 : decode zb_XSight_standPoints 151 = .ok (.imul, 1) := by decide +kernel
theorem zd_XSight_standPoints_152 : decode zb_XSight_standPoints 152 = .ok (.invokevirtual 173, 3) := by decide +kernel
theorem zd_XSight_standPoints_155 : decode zb_XSight_standPoints 155 = .ok (.iastore, 1) := by decide +kernel
theorem zd_XSight_standPoints_156 : decode zb_XSight_standPoints 156 = .ok (.iinc 5 1, 3) := by decide +kernel
theorem zd_XSight_standPoints_159 : decode zb_XSight_standPoints 159 = .ok (.goto (-114), 3) := by decide +kernel
theorem zd_XSight_standPoints_162 : decode zb_XSight_standPoints 162 = .ok (.return_, 1) := by decide +kernel
theorem zw_230 : (Jvm.Cond.fieldLink "OrreryBox$Sight" (89 : Nat) "OrreryBox$Node" "placing" "[I") ∈ gw := gw_t 230 (by decide +kernel) rfl
theorem zw_184 : (Jvm.Cond.fieldLink "OrreryBox$Sight" (164 : Nat) "OrreryBox$Mesh" "points" "[I") ∈ gw := gw_t 184 (by decide +kernel) rfl
theorem zw_179 : (Jvm.Cond.fieldLink "OrreryBox$Sight" (167 : Nat) "OrreryBox$Mesh" "pointCount" "I") ∈ gw := gw_t 179 (by decide +kernel) rfl
def L_XSight_standPoints_57 (sh : zSh) (fuel : Nat) (v0 : Nat) (v1 : Nat) (v2 : Nat) (v3 : Nat) (v4 : Nat) (v5 : Int32) (v6 : Int32) (mm : zMem) : Option (Nat × Nat × Nat × Nat × Nat × Int32 × Int32 × zMem) := match fuel with
  | 0 => none
  | fu + 1 => (if 3 ≤ v6 then some (v0, v1, v2, v3, v4, v5, v6, mm) else zoL (3 * v5) (fun i50 => zoS (sh v4) 100 (fun le52 => if (i50 : Int32) < 0 ∨ le52 ≤ (i50 : Int32).toNatClampNeg then none else zoL ((3 * v5) + 1) (fun i54 => zoS (sh v4) 100 (fun le56 => if (i54 : Int32) < 0 ∨ le56 ≤ (i54 : Int32).toNatClampNeg then none else zoL ((3 * v5) + 2) (fun i58 => zoS (sh v4) 100 (fun le60 => if (i58 : Int32) < 0 ∨ le60 ≤ (i58 : Int32).toNatClampNeg then none else zoL (((mm.1 v4 (i50 : Int32).toNatClampNeg) : Int32).toInt64) (fun x62 => zoL (((mm.1 v4 (i54 : Int32).toNatClampNeg) : Int32).toInt64) (fun x63 => zoL (((mm.1 v4 (i58 : Int32).toNatClampNeg) : Int32).toInt64) (fun x64 => Option.bind (F_XFixed_along sh mm v2 v6 x62 x63 x64) (fun p65 => zoS (sh v0) 9 (fun le67 => Option.bind ((p65.2).2.2 v0 13) (fun a68 => zoL ((4 * v6) + 3) (fun i69 => zoS (sh v2) 100 (fun le71 => if (i69 : Int32) < 0 ∨ le71 ≤ (i69 : Int32).toNatClampNeg then none else zoL (p65.1 + ((((p65.2).1 v2 (i69 : Int32).toNatClampNeg) : Int32).toInt64)) (fun x73 => zoL (zx_bound x73) (fun x75 => zoL ((4 * v5) + v6) (fun i76 => zoS (sh a68) 100 (fun le78 => if (i76 : Int32) < 0 ∨ le78 ≤ (i76 : Int32).toNatClampNeg then none else zoL (mI (p65.2) a68 (i76 : Int32).toNatClampNeg x75) (fun mm80 => L_XSight_standPoints_57 sh fu v0 v1 v2 v3 v4 v5 (v6 + 1) mm80))))))))))))))))))))
set_option maxHeartbeats 4000000 in
set_option maxRecDepth 100000 in
theorem lp_XSight_standPoints_57 {p : Program} {l : Launch} {e : Env} {s : State} {m : MethodId} {args : Array Value} {below : List Frame} {meth : Method} {c : Code} {D : va_G} {tA : Nat → ClassId} {b n : Nat} {post : Option Value → zV → Nat → Prop} {sh : zSh} (F : zF p s m args meth c zb_XSight_standPoints 9 "OrreryBox$Sight" D tA b) : ∀ (fuel : Nat) (v0 : Nat) (v1 : Nat) (v2 : Nat) (v3 : Nat) (v4 : Nat) (v5 : Int32) (v6 : Int32) (mm : zMem) (r : Nat × Nat × Nat × Nat × Nat × Int32 × Int32 × zMem), L_XSight_standPoints_57 sh fuel v0 v1 v2 v3 v4 v5 v6 mm = some r → (Z p l e { frames := 3, cells := 0, slots := 0, locals := 78 } s m args below meth c D b 9 (MQ below (zQ D b post) args s 0 0 (fun q => b ≤ q)) (zW tA b sh r.2.2.2.2.2.2.2) n 0 0 132 [(0, .ref (b + (r.1))), (1, .ref (b + (r.2.1))), (2, .ref (b + (r.2.2.1))), (3, .ref (b + (r.2.2.2.1))), (4, .ref (b + (r.2.2.2.2.1))), (5, .int (r.2.2.2.2.2.1)), (6, .int (r.2.2.2.2.2.2.1))] []) → Z p l e { frames := 3, cells := 0, slots := 0, locals := 78 } s m args below meth c D b 9 (MQ below (zQ D b post) args s 0 0 (fun q => b ≤ q)) (zW tA b sh mm) n 0 0 57 [(0, .ref (b + v0)), (1, .ref (b + v1)), (2, .ref (b + v2)), (3, .ref (b + v3)), (4, .ref (b + v4)), (5, .int v5), (6, .int v6)] [] := by
  intro fuel
  induction fuel with
  | zero =>
    intro v0 v1 v2 v3 v4 v5 v6 mm r h
    cases h
  | succ fu ih =>
    intro v0 v1 v2 v3 v4 v5 v6 mm r h hx0
    rw [L_XSight_standPoints_57] at h
    refine zr_pcn 57 rfl ?_
    refine zr_iload F zd_XSight_standPoints_57 rfl ?_
    refine zr_iconstv (v := 3) F zd_XSight_standPoints_59 (by decide) ?_
    refine zr_icmp_ge F 132 zd_XSight_standPoints_60 (by decide) (fun hb49 => ?_) (fun hb49 => ?_)
    ·
      replace h := (if_pos hb49).symm.trans h
      obtain rfl := Option.some.inj h
      refine zr_loc (L' := [(0, .ref (b + v0)), (1, .ref (b + v1)), (2, .ref (b + v2)), (3, .ref (b + v3)), (4, .ref (b + v4)), (5, .int v5), (6, .int v6)]) ⟨rfl, rfl, rfl, rfl, rfl, rfl, rfl, trivial⟩ ?_
      exact hx0 
    ·
      replace h := (if_neg hb49).symm.trans h
      refine zr_aload_n F zd_XSight_standPoints_63 rfl ?_
      refine zr_iload F zd_XSight_standPoints_64 rfl ?_
      refine zr_aload F zd_XSight_standPoints_66 rfl ?_
      refine zr_iconstv (v := 3) F zd_XSight_standPoints_68 (by decide) ?_
      refine zr_iload F zd_XSight_standPoints_69 rfl ?_
      refine zr_pcn 71 rfl ?_
      refine zr_imul F zd_XSight_standPoints_71 ?_
      obtain ⟨i50, ei50, h⟩ := zoL_s h
      rw [← ei50]
      obtain ⟨le52, hs51, h⟩ := zoS_s h
      obtain ⟨hi53, h⟩ := zoI_s h
      refine zr_iald F zd_XSight_standPoints_72 (zW_a0 hs51) hi53 ?_
      refine zr_i2l F zd_XSight_standPoints_73 ?_
      refine zr_aload F zd_XSight_standPoints_74 rfl ?_
      refine zr_iconstv (v := 3) F zd_XSight_standPoints_76 (by decide) ?_
      refine zr_iload F zd_XSight_standPoints_77 rfl ?_
      refine zr_imul F zd_XSight_standPoints_79 ?_
      refine zr_iconstv (v := 1) F zd_XSight_standPoints_80 (by decide) ?_
      refine zr_pcn 81 rfl ?_
      refine zr_iadd F zd_XSight_standPoints_81 ?_
      obtain ⟨i54, ei54, h⟩ := zoL_s h
      rw [← ei54]
      obtain ⟨le56, hs55, h⟩ := zoS_s h
      obtain ⟨hi57, h⟩ := zoI_s h
      refine zr_iald F zd_XSight_standPoints_82 (zW_a0 hs55) hi57 ?_
      refine zr_i2l F zd_XSight_standPoints_83 ?_
      refine zr_aload F zd_XSight_standPoints_84 rfl ?_
      refine zr_iconstv (v := 3) F zd_XSight_standPoints_86 (by decide) ?_
      refine zr_iload F zd_XSight_standPoints_87 rfl ?_
      refine zr_imul F zd_XSight_standPoints_89 ?_
      refine zr_iconstv (v := 2) F zd_XSight_standPoints_90 (by decide) ?_
      refine zr_pcn 91 rfl ?_
      refine zr_iadd F zd_XSight_standPoints_91 ?_
      obtain ⟨i58, ei58, h⟩ := zoL_s h
      rw [← ei58]
      obtain ⟨le60, hs59, h⟩ := zoS_s h
      obtain ⟨hi61, h⟩ := zoI_s h
      refine zr_iald F zd_XSight_standPoints_92 (zW_a0 hs59) hi61 ?_
      refine zr_i2l F zd_XSight_standPoints_93 ?_
      obtain ⟨x62, ex62, h⟩ := zoL_s h
      rw [← ex62]
      obtain ⟨x63, ex63, h⟩ := zoL_s h
      rw [← ex63]
      obtain ⟨x64, ex64, h⟩ := zoL_s h
      rw [← ex64]
      obtain ⟨p65, ep65, h⟩ := zoB_s h
      refine zr_callS1 F (k_XFixed_along l D tA b sh _ ep65) zd_XSight_standPoints_94 zs_XSight_113 zq_XFixed_along rfl rfl ⟨(Nat.le_of_ble_eq_true rfl), (Nat.le_of_ble_eq_true rfl)⟩ (Nat.le_of_ble_eq_true rfl) ⟨(Nat.le_of_ble_eq_true rfl), (Nat.le_of_ble_eq_true rfl)⟩ ?_
      refine zr_lstore F zd_XSight_standPoints_97 (by decide) ?_
      refine zr_aload_n F zd_XSight_standPoints_99 rfl ?_
      obtain ⟨le67, hs66, h⟩ := zoS_s h
      obtain ⟨a68, ea68, h⟩ := zoB_s h
      refine zr_get F 9 13 zd_XSight_standPoints_100 (zW_o hs66 (by decide)) rfl (by decide) zw_386 rfl (by rfl) ?_
      refine zr_tor ea68 ?_
      refine zr_iconstv (v := 4) F zd_XSight_standPoints_103 (by decide) ?_
      refine zr_pcn 104 rfl ?_
      refine zr_iload F zd_XSight_standPoints_104 rfl ?_
      refine zr_imul F zd_XSight_standPoints_106 ?_
      refine zr_iload F zd_XSight_standPoints_107 rfl ?_
      refine zr_iadd F zd_XSight_standPoints_109 ?_
      refine zr_lload F zd_XSight_standPoints_110 rfl ?_
      refine zr_aload_n F zd_XSight_standPoints_112 rfl ?_
      refine zr_iconstv (v := 4) F zd_XSight_standPoints_113 (by decide) ?_
      refine zr_iload F zd_XSight_standPoints_114 rfl ?_
      refine zr_pcn 116 rfl ?_
      refine zr_imul F zd_XSight_standPoints_116 ?_
      refine zr_iconstv (v := 3) F zd_XSight_standPoints_117 (by decide) ?_
      refine zr_iadd F zd_XSight_standPoints_118 ?_
      obtain ⟨i69, ei69, h⟩ := zoL_s h
      rw [← ei69]
      obtain ⟨le71, hs70, h⟩ := zoS_s h
      obtain ⟨hi72, h⟩ := zoI_s h
      refine zr_iald F zd_XSight_standPoints_119 (zW_a0 hs70) hi72 ?_
      refine zr_i2l F zd_XSight_standPoints_120 ?_
      refine zr_ladd F zd_XSight_standPoints_121 ?_
      obtain ⟨x73, ex73, h⟩ := zoL_s h
      rw [← ex73]
      refine zr_callS1 F (c_XFixed_bound l D tA b _ _ x73) zd_XSight_standPoints_122 zs_XSight_117 zq_XFixed_bound rfl rfl ⟨(Nat.le_of_ble_eq_true rfl), (Nat.le_of_ble_eq_true rfl)⟩ (Nat.le_of_ble_eq_true rfl) ⟨(Nat.le_of_ble_eq_true rfl), (Nat.le_of_ble_eq_true rfl)⟩ ?_
      obtain ⟨x75, ex75, h⟩ := zoL_s h
      rw [← ex75]
      obtain ⟨i76, ei76, h⟩ := zoL_s h
      rw [← ei76]
      obtain ⟨le78, hs77, h⟩ := zoS_s h
      obtain ⟨hi79, h⟩ := zoI_s h
      refine zr_iast F zd_XSight_standPoints_125 (zW_a0 hs77) hi79 ?_
      obtain ⟨mm80, emm80, h⟩ := zoL_s h
      refine zr_norm (zW tA b sh mm80) _ (by rw [emm80]; exact zW_s0 hs77) rfl ?_
      refine zr_pcn 126 rfl ?_
      refine zr_iinc (v := (v6 + 1)) F zd_XSight_standPoints_126 rfl rfl (by decide) ?_
      refine zr_goto F 57 zd_XSight_standPoints_129 (by decide) ?_
      refine zr_loc (L' := [(0, .ref (b + v0)), (1, .ref (b + v1)), (2, .ref (b + v2)), (3, .ref (b + v3)), (4, .ref (b + v4)), (5, .int v5), (6, .int (v6 + 1))]) ⟨rfl, rfl, rfl, rfl, rfl, rfl, rfl, trivial⟩ ?_
      exact ih _ _ _ _ _ _ _ _ _ h hx0
theorem zw_187 : (Jvm.Cond.fieldLink "OrreryBox$Sight" (170 : Nat) "OrreryBox$Mesh" "normals" "[I") ∈ gw := gw_t 187 (by decide +kernel) rfl
theorem zw_710 : (Jvm.Cond.methodLink "OrreryBox$Sight" (173 : Nat) ({ cls := "OrreryBox$Sight", name := "lightOf", desc := "([I[II)I" } : Jvm.MethodName)) ∈ gw := gw_t 710 (by decide +kernel) rfl
theorem zw_712 : (Jvm.Cond.instanceMethod ({ cls := "OrreryBox$Sight", name := "lightOf", desc := "([I[II)I" } : Jvm.MethodName)) ∈ gw := gw_t 712 (by decide +kernel) rfl
theorem zv_10 : (Jvm.Cond.selects "OrreryBox$Sight" (⟨"OrreryBox$Sight", "lightOf", "([I[II)I"⟩ : MethodName) ⟨"OrreryBox$Sight", "lightOf", "([I[II)I"⟩) ∈ gw := gw_s 10 (by decide +kernel) rfl
theorem zs_XSight_173 : zwV "OrreryBox$Sight" 173 "OrreryBox$Sight" zy_XSight_lightOf zb_XSight_lightOf 9 (some .int) := ⟨zw_710, zw_712, zv_10, zw_10, zc_XSight_lightOf⟩
def L_XSight_standPoints_45 (sh : zSh) (fuel : Nat) (v0 : Nat) (v1 : Nat) (v2 : Nat) (v3 : Nat) (v4 : Nat) (v5 : Int32) (mm : zMem) : Option (Nat × Nat × Nat × Nat × Nat × Int32 × zMem) := match fuel with
  | 0 => none
  | fu + 1 => zoS (sh v1) 2 (fun le47 => (if (mm.1 v1 1) ≤ v5 then some (v0, v1, v2, v3, v4, v5, mm) else Option.bind (L_XSight_standPoints_57 sh zfuel v0 v1 v2 v3 v4 v5 0 mm) (fun q81 => zoS (sh (q81.1)) 9 (fun le83 => Option.bind ((q81.2.2.2.2.2.2.2).2.2 (q81.1) 13) (fun a84 => zoS (sh (q81.2.1)) 2 (fun le86 => Option.bind ((q81.2.2.2.2.2.2.2).2.2 (q81.2.1) 4) (fun a87 => zoS (sh (q81.1)) 9 (fun le89 => Option.bind (F_XSight_lightOf sh (q81.2.2.2.2.2.2.2) (q81.1) (q81.2.2.2.1) a87 (3 * q81.2.2.2.2.2.1)) (fun p90 => zoL ((4 * q81.2.2.2.2.2.1) + 3) (fun i91 => zoS (sh a84) 100 (fun le93 => if (i91 : Int32) < 0 ∨ le93 ≤ (i91 : Int32).toNatClampNeg then none else zoL (mI (p90.2) a84 (i91 : Int32).toNatClampNeg (p90.1)) (fun mm95 => L_XSight_standPoints_45 sh fu (q81.1) (q81.2.1) (q81.2.2.1) (q81.2.2.2.1) (q81.2.2.2.2.1) (q81.2.2.2.2.2.1 + 1) mm95))))))))))))
set_option maxHeartbeats 4000000 in
set_option maxRecDepth 100000 in
theorem lp_XSight_standPoints_45 {p : Program} {l : Launch} {e : Env} {s : State} {m : MethodId} {args : Array Value} {below : List Frame} {meth : Method} {c : Code} {D : va_G} {tA : Nat → ClassId} {b n : Nat} {post : Option Value → zV → Nat → Prop} {sh : zSh} (F : zF p s m args meth c zb_XSight_standPoints 9 "OrreryBox$Sight" D tA b) : ∀ (fuel : Nat) (v0 : Nat) (v1 : Nat) (v2 : Nat) (v3 : Nat) (v4 : Nat) (v5 : Int32) (mm : zMem) (r : Nat × Nat × Nat × Nat × Nat × Int32 × zMem), L_XSight_standPoints_45 sh fuel v0 v1 v2 v3 v4 v5 mm = some r → (Z p l e { frames := 3, cells := 0, slots := 0, locals := 78 } s m args below meth c D b 9 (MQ below (zQ D b post) args s 0 0 (fun q => b ≤ q)) (zW tA b sh r.2.2.2.2.2.2) n 0 0 162 [(0, .ref (b + (r.1))), (1, .ref (b + (r.2.1))), (2, .ref (b + (r.2.2.1))), (3, .ref (b + (r.2.2.2.1))), (4, .ref (b + (r.2.2.2.2.1))), (5, .int (r.2.2.2.2.2.1))] []) → Z p l e { frames := 3, cells := 0, slots := 0, locals := 78 } s m args below meth c D b 9 (MQ below (zQ D b post) args s 0 0 (fun q => b ≤ q)) (zW tA b sh mm) n 0 0 45 [(0, .ref (b + v0)), (1, .ref (b + v1)), (2, .ref (b + v2)), (3, .ref (b + v3)), (4, .ref (b + v4)), (5, .int v5)] [] := by
  intro fuel
  induction fuel with
  | zero =>
    intro v0 v1 v2 v3 v4 v5 mm r h
    cases h
  | succ fu ih =>
    intro v0 v1 v2 v3 v4 v5 mm r h hx0
    rw [L_XSight_standPoints_45] at h
    refine zr_iload F zd_XSight_standPoints_45 rfl ?_
    refine zr_aload_n F zd_XSight_standPoints_47 rfl ?_
    obtain ⟨le47, hs46, h⟩ := zoS_s h
    refine zr_get F 2 1 zd_XSight_standPoints_48 (zW_o hs46 (by decide)) rfl (by decide) zw_179 rfl (by rfl) ?_
    refine zr_icmp_ge F 162 zd_XSight_standPoints_51 (by decide) (fun hb48 => ?_) (fun hb48 => ?_)
    ·
      replace h := (if_pos hb48).symm.trans h
      obtain rfl := Option.some.inj h
      refine zr_loc (L' := [(0, .ref (b + v0)), (1, .ref (b + v1)), (2, .ref (b + v2)), (3, .ref (b + v3)), (4, .ref (b + v4)), (5, .int v5)]) ⟨rfl, rfl, rfl, rfl, rfl, rfl, trivial⟩ ?_
      exact hx0 
    ·
      replace h := (if_neg hb48).symm.trans h
      refine zr_iconstv (v := 0) F zd_XSight_standPoints_54 (by decide) ?_
      refine zr_istore F zd_XSight_standPoints_55 (by decide) ?_
      obtain ⟨q81, eq81, h⟩ := zoB_s h
      refine zr_loc (L' := [(0, .ref (b + v0)), (1, .ref (b + v1)), (2, .ref (b + v2)), (3, .ref (b + v3)), (4, .ref (b + v4)), (5, .int v5), (6, .int 0)]) ⟨rfl, rfl, rfl, rfl, rfl, rfl, rfl, trivial⟩ ?_
      refine lp_XSight_standPoints_57 F _ _ _ _ _ _ _ _ _ _ eq81 ?_
      ·
        refine zr_aload_n F zd_XSight_standPoints_132 rfl ?_
        obtain ⟨le83, hs82, h⟩ := zoS_s h
        obtain ⟨a84, ea84, h⟩ := zoB_s h
        refine zr_get F 9 13 zd_XSight_standPoints_133 (zW_o hs82 (by decide)) rfl (by decide) zw_386 rfl (by rfl) ?_
        refine zr_tor ea84 ?_
        refine zr_iconstv (v := 4) F zd_XSight_standPoints_136 (by decide) ?_
        refine zr_iload F zd_XSight_standPoints_137 rfl ?_
        refine zr_imul F zd_XSight_standPoints_139 ?_
        refine zr_iconstv (v := 3) F zd_XSight_standPoints_140 (by decide) ?_
        refine zr_pcn 141 rfl ?_
        refine zr_iadd F zd_XSight_standPoints_141 ?_
        refine zr_aload_n F zd_XSight_standPoints_142 rfl ?_
        refine zr_aload_n F zd_XSight_standPoints_143 rfl ?_
        refine zr_aload_n F zd_XSight_standPoints_144 rfl ?_
        obtain ⟨le86, hs85, h⟩ := zoS_s h
        obtain ⟨a87, ea87, h⟩ := zoB_s h
        refine zr_get F 2 4 zd_XSight_standPoints_145 (zW_o hs85 (by decide)) rfl (by decide) zw_187 rfl (by rfl) ?_
        refine zr_tor ea87 ?_
        refine zr_iconstv (v := 3) F zd_XSight_standPoints_148 (by decide) ?_
        refine zr_iload F zd_XSight_standPoints_149 rfl ?_
        refine zr_imul F zd_XSight_standPoints_151 ?_
        refine zr_pcn 152 rfl ?_
        obtain ⟨le89, hs88, h⟩ := zoS_s h
        obtain ⟨p90, ep90, h⟩ := zoB_s h
        refine zr_callV1 F (k_XSight_lightOf l D tA b sh _ ep90) zd_XSight_standPoints_152 (zW_o hs88 (by decide)) rfl zs_XSight_173 rfl zq_XSight_lightOf rfl rfl ⟨(Nat.le_of_ble_eq_true rfl), (Nat.le_of_ble_eq_true rfl)⟩ (Nat.le_of_ble_eq_true rfl) ⟨(Nat.le_of_ble_eq_true rfl), (Nat.le_of_ble_eq_true rfl)⟩ ?_
        obtain ⟨i91, ei91, h⟩ := zoL_s h
        rw [← ei91]
        obtain ⟨le93, hs92, h⟩ := zoS_s h
        obtain ⟨hi94, h⟩ := zoI_s h
        refine zr_iast F zd_XSight_standPoints_155 (zW_a0 hs92) hi94 ?_
        obtain ⟨mm95, emm95, h⟩ := zoL_s h
        refine zr_norm (zW tA b sh mm95) _ (by rw [emm95]; exact zW_s0 hs92) rfl ?_
        refine zr_iinc (v := (q81.2.2.2.2.2.1 + 1)) F zd_XSight_standPoints_156 rfl rfl (by decide) ?_
        refine zr_goto F 45 zd_XSight_standPoints_159 (by decide) ?_
        refine zr_loc (L' := [(0, .ref (b + (q81.1))), (1, .ref (b + (q81.2.1))), (2, .ref (b + (q81.2.2.1))), (3, .ref (b + (q81.2.2.2.1))), (4, .ref (b + (q81.2.2.2.2.1))), (5, .int (q81.2.2.2.2.2.1 + 1))]) ⟨rfl, rfl, rfl, rfl, rfl, rfl, trivial⟩ ?_
        exact ih _ _ _ _ _ _ _ _ h hx0
def F_XSight_standPoints (sh : zSh) (mm : zMem) (o : Nat) (x0_ : Nat) : Option zMem := zoS (sh o) 9 (fun le2 => Option.bind (mm.2.2 o 9) (fun a3 => zoS (sh o) 9 (fun le5 => Option.bind (mm.2.2 o 10) (fun a6 => zoS (sh o) 9 (fun le8 => zoL (mm.1 o 12) (fun i9 => zoS (sh a6) 100 (fun le11 => if (i9 : Int32) < 0 ∨ le11 ≤ (i9 : Int32).toNatClampNeg then none else zoL (mm.1 a6 (i9 : Int32).toNatClampNeg) (fun i13 => zoR (sh a3) (fun t17 le15 => if (i13 : Int32) < 0 ∨ le15 ≤ (i13 : Int32).toNatClampNeg then none else Option.bind (mm.2.2 a3 (i13 : Int32).toNatClampNeg) (fun a18 => zoS (sh o) 9 (fun le20 => Option.bind (mm.2.2 o 7) (fun a21 => zoS (sh a21) 8 (fun le23 => Option.bind (mm.2.2 a21 4) (fun a24 => zoS (sh o) 9 (fun le26 => Option.bind (mm.2.2 o 10) (fun a27 => zoS (sh o) 9 (fun le29 => zoL (mm.1 o 12) (fun i30 => zoS (sh a27) 100 (fun le32 => if (i30 : Int32) < 0 ∨ le32 ≤ (i30 : Int32).toNatClampNeg then none else zoL (mm.1 a27 (i30 : Int32).toNatClampNeg) (fun i34 => zoR (sh a24) (fun t38 le36 => if (i34 : Int32) < 0 ∨ le36 ≤ (i34 : Int32).toNatClampNeg then none else Option.bind (mm.2.2 a24 (i34 : Int32).toNatClampNeg) (fun a39 => zoS (sh a39) 3 (fun le41 => Option.bind (mm.2.2 a39 5) (fun a42 => zoS (sh x0_) 2 (fun le44 => Option.bind (mm.2.2 x0_ 3) (fun a45 => Option.bind (L_XSight_standPoints_45 sh zfuel o x0_ a18 a42 a45 0 mm) (fun q96 => some (q96.2.2.2.2.2.2))))))))))))))))))))))))))))
set_option maxHeartbeats 4000000 in
set_option maxRecDepth 100000 in
theorem k_XSight_standPoints (l : Launch) (D : va_G) (tA : Nat → ClassId) (b : Nat) (sh : zSh) (n : Nat) {mm : zMem} {o : Nat} {x0_ : Nat} {r : zMem} (h : F_XSight_standPoints sh mm o x0_ = some r) : zM l D tA b zy_XSight_standPoints zb_XSight_standPoints 9 none 3 78 0 0 [.ref (b + o), .ref (b + x0_)] (zW tA b sh mm) n (zE none (zW tA b sh r) n) := by
  unfold F_XSight_standPoints at h
  refine zM_of (own := "OrreryBox$Sight") (plainFor_of_name (by decide)) rfl (Nat.le_of_ble_eq_true rfl) (fun p e s m below meth c F hr hin hH => ?_)
  refine zr_aload_n F zd_XSight_standPoints_0 rfl ?_
  obtain ⟨le2, hs1, h⟩ := zoS_s h
  obtain ⟨a3, ea3, h⟩ := zoB_s h
  refine zr_get F 9 9 zd_XSight_standPoints_1 (zW_o hs1 (by decide)) rfl (by decide) zw_382 rfl (by rfl) ?_
  refine zr_tor ea3 ?_
  refine zr_aload_n F zd_XSight_standPoints_4 rfl ?_
  obtain ⟨le5, hs4, h⟩ := zoS_s h
  obtain ⟨a6, ea6, h⟩ := zoB_s h
  refine zr_get F 9 10 zd_XSight_standPoints_5 (zW_o hs4 (by decide)) rfl (by decide) zw_383 rfl (by rfl) ?_
  refine zr_tor ea6 ?_
  refine zr_aload_n F zd_XSight_standPoints_8 rfl ?_
  obtain ⟨le8, hs7, h⟩ := zoS_s h
  refine zr_get F 9 12 zd_XSight_standPoints_9 (zW_o hs7 (by decide)) rfl (by decide) zw_385 rfl (by rfl) ?_
  obtain ⟨i9, ei9, h⟩ := zoL_s h
  rw [← ei9]
  obtain ⟨le11, hs10, h⟩ := zoS_s h
  obtain ⟨hi12, h⟩ := zoI_s h
  refine zr_iald F zd_XSight_standPoints_12 (zW_a0 hs10) hi12 ?_
  refine zr_pcn 13 rfl ?_
  obtain ⟨i13, ei13, h⟩ := zoL_s h
  rw [← ei13]
  obtain ⟨t17, le15, hs14, h⟩ := zoR_s h
  obtain ⟨hi16, h⟩ := zoI_s h
  obtain ⟨a18, ea18, h⟩ := zoB_s h
  refine zr_aaldW F zd_XSight_standPoints_13 hs14 hi16 ea18 ?_
  refine zr_astore_n F zd_XSight_standPoints_14 (by decide) ?_
  refine zr_aload_n F zd_XSight_standPoints_15 rfl ?_
  obtain ⟨le20, hs19, h⟩ := zoS_s h
  obtain ⟨a21, ea21, h⟩ := zoB_s h
  refine zr_get F 9 7 zd_XSight_standPoints_16 (zW_o hs19 (by decide)) rfl (by decide) zw_380 rfl (by rfl) ?_
  refine zr_tor ea21 ?_
  obtain ⟨le23, hs22, h⟩ := zoS_s h
  obtain ⟨a24, ea24, h⟩ := zoB_s h
  refine zr_get F 8 4 zd_XSight_standPoints_19 (zW_o hs22 (by decide)) rfl (by decide) zw_296 rfl (by rfl) ?_
  refine zr_tor ea24 ?_
  refine zr_aload_n F zd_XSight_standPoints_22 rfl ?_
  obtain ⟨le26, hs25, h⟩ := zoS_s h
  obtain ⟨a27, ea27, h⟩ := zoB_s h
  refine zr_get F 9 10 zd_XSight_standPoints_23 (zW_o hs25 (by decide)) rfl (by decide) zw_383 rfl (by rfl) ?_
  refine zr_tor ea27 ?_
  refine zr_aload_n F zd_XSight_standPoints_26 rfl ?_
  refine zr_pcn 27 rfl ?_
  obtain ⟨le29, hs28, h⟩ := zoS_s h
  refine zr_get F 9 12 zd_XSight_standPoints_27 (zW_o hs28 (by decide)) rfl (by decide) zw_385 rfl (by rfl) ?_
  obtain ⟨i30, ei30, h⟩ := zoL_s h
  rw [← ei30]
  obtain ⟨le32, hs31, h⟩ := zoS_s h
  obtain ⟨hi33, h⟩ := zoI_s h
  refine zr_iald F zd_XSight_standPoints_30 (zW_a0 hs31) hi33 ?_
  obtain ⟨i34, ei34, h⟩ := zoL_s h
  rw [← ei34]
  obtain ⟨t38, le36, hs35, h⟩ := zoR_s h
  obtain ⟨hi37, h⟩ := zoI_s h
  obtain ⟨a39, ea39, h⟩ := zoB_s h
  refine zr_aaldW F zd_XSight_standPoints_31 hs35 hi37 ea39 ?_
  obtain ⟨le41, hs40, h⟩ := zoS_s h
  obtain ⟨a42, ea42, h⟩ := zoB_s h
  refine zr_get F 3 5 zd_XSight_standPoints_32 (zW_o hs40 (by decide)) rfl (by decide) zw_230 rfl (by rfl) ?_
  refine zr_tor ea42 ?_
  refine zr_astore_n F zd_XSight_standPoints_35 (by decide) ?_
  refine zr_aload_n F zd_XSight_standPoints_36 rfl ?_
  obtain ⟨le44, hs43, h⟩ := zoS_s h
  obtain ⟨a45, ea45, h⟩ := zoB_s h
  refine zr_get F 2 3 zd_XSight_standPoints_37 (zW_o hs43 (by decide)) rfl (by decide) zw_184 rfl (by rfl) ?_
  refine zr_tor ea45 ?_
  refine zr_astore F zd_XSight_standPoints_40 (by decide) ?_
  refine zr_loc (L' := [(0, .ref (b + o)), (1, .ref (b + x0_)), (2, .ref (b + a18)), (3, .ref (b + a42)), (4, .ref (b + a45))]) ⟨rfl, rfl, rfl, rfl, rfl, trivial⟩ ?_
  refine zr_pcn 42 rfl ?_
  refine zr_iconstv (v := 0) F zd_XSight_standPoints_42 (by decide) ?_
  refine zr_istore F zd_XSight_standPoints_43 (by decide) ?_
  obtain ⟨q96, eq96, h⟩ := zoB_s h
  refine zr_loc (L' := [(0, .ref (b + o)), (1, .ref (b + x0_)), (2, .ref (b + a18)), (3, .ref (b + a42)), (4, .ref (b + a45)), (5, .int 0)]) ⟨rfl, rfl, rfl, rfl, rfl, rfl, trivial⟩ ?_
  refine lp_XSight_standPoints_45 F _ _ _ _ _ _ _ _ _ eq96 ?_
  ·
    obtain rfl := Option.some.inj h
    exact zr_vret F hr zd_XSight_standPoints_162 (Nat.le_of_ble_eq_true rfl) (Nat.le_of_ble_eq_true rfl) ⟨rfl, rfl, rfl⟩
