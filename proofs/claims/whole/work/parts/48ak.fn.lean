abbrev zb_XTexture_fill : ByteArray := prog_11_method_2_code
def zy_XTexture_fill : MethodName := ⟨"OrreryBox$Texture", "fill", "([I)V"⟩
theorem zc_XTexture_fill : Cond.code zy_XTexture_fill zb_XTexture_fill 3 none ∈ gw := gw_t 1235 (by decide +kernel) rfl
theorem zq_XTexture_fill : zy_XTexture_fill.cls ≠ "java/lang/invoke/MethodHandle" ∧ zy_XTexture_fill.cls ≠ "java/lang/invoke/VarHandle" ∧ (parseMethodDescriptor zy_XTexture_fill.desc).map (fun d => d.parameters.length) = some 1 := by decide +kernel
theorem zd_XTexture_fill_0 : decode zb_XTexture_fill 0 = .ok (.iconst 0, 1) := by decide +kernel
theorem zd_XTexture_fill_1 : decode zb_XTexture_fill 1 = .ok (.istore_n 2, 1) := by decide +kernel
theorem zd_XTexture_fill_2 : decode zb_XTexture_fill 2 = .ok (.iload_n 2, 1) := by decide +kernel
theorem zd_XTexture_fill_3 : decode zb_XTexture_fill 3 = .ok (.aload_n 0, 1) := by decide +kernel
theorem zd_XTexture_fill_4 : decode zb_XTexture_fill 4 = .ok (.getfield 16, 3) := by decide +kernel
theorem zd_XTexture_fill_7 : decode zb_XTexture_fill 7 = .ok (.aload_n 0, 1) := by decide +kernel
theorem zd_XTexture_fill_8 : decode zb_XTexture_fill 8 = .ok (.getfield 16, 3) := by decide +kernel
theorem zd_XTexture_fill_11 : decode zb_XTexture_fill 11 = .ok (.imul, 1) := by decide +kernel
theorem zd_XTexture_fill_12 : decode zb_XTexture_fill 12 = .ok (.if_icmp .ge 42, 3) := by decide +kernel
theorem zd_XTexture_fill_15 : decode zb_XTexture_fill 15 = .ok (.aload_n 0, 1) := by decide +kernel
theorem zd_XTexture_fill_16 : decode zb_XTexture_fill 16 = .ok (.getfield 7, 3) := by decide +kernel
theorem zd_XTexture_fill_19 : decode zb_XTexture_fill 19 = .ok (.iload_n 2, 1) := by decide +kernel
theorem zd_XTexture_fill_20 : decode zb_XTexture_fill 20 = .ok (.aload_n 1, 1) := by decide +kernel
theorem zd_XTexture_fill_21 : decode zb_XTexture_fill 21 = .ok (.iconst 3, 1) := by decide +kernel
theorem zd_XTexture_fill_22 : decode zb_XTexture_fill 22 = .ok (.iload_n 2, 1) := by decide +kernel
theorem zd_XTexture_fill_23 : decode zb_XTexture_fill 23 = .ok (.imul, 1) := by decide +kernel
theorem zd_XTexture_fill_24 : decode zb_XTexture_fill 24 = .ok (.iaload, 1) := by decide +kernel
theorem zd_XTexture_fill_25 : decode zb_XTexture_fill 25 = .ok (.bipush 16, 2) := by decide +kernel
theorem zd_XTexture_fill_27 : decode zb_XTexture_fill 27 = .ok (.ishl, 1) := by decide +kernel
theorem zd_XTexture_fill_28 : decode zb_XTexture_fill 28 = .ok (.aload_n 1, 1) := by decide +kernel
theorem zd_XTexture_fill_29 : decode zb_XTexture_fill 29 = .ok (.iconst 3, 1) := by decide +kernel
theorem zd_XTexture_fill_30 : decode zb_XTexture_fill 30 = .ok (.iload_n 2, 1) := by decide +kernel
theorem zd_XTexture_fill_31 : decode zb_XTexture_fill 31 = .ok (.imul, 1) := by decide +kernel
theorem zd_XTexture_fill_32 : decode zb_XTexture_fill 32 = .ok (.iconst 1, 1) := by decide +kernel
theorem zd_XTexture_fill_33 : decode zb_XTexture_fill 33 = .ok (.iadd, 1) := by decide +kernel
theorem zd_XTexture_fill_34 : decode zb_XTexture_fill 34 = .ok (.iaload, 1) := by decide +kernel
theorem zd_XTexture_fill_35 : decode zb_XTexture_fill 35 = .ok (.bipush 8, 2) := by decide +kernel
theorem zd_XTexture_fill_37 : decode zb_XTexture_fill 37 = .ok (.ishl, 1) := by decide +kernel
theorem zd_XTexture_fill_38 : decode zb_XTexture_fill 38 = .ok (.ior, 1) := by decide +kernel
theorem zd_XTexture_fill_39 : decode zb_XTexture_fill 39 = .ok (.aload_n 1, 1) := by decide +kernel
theorem zd_XTexture_fill_40 : decode zb_XTexture_fill 40 = .ok (.iconst 3, 1) := by decide +kernel
theorem zd_XTexture_fill_41 : decode zb_XTexture_fill 41 = .ok (.iload_n 2, 1) := by decide +kernel
theorem zd_XTexture_fill_42 : decode zb_XTexture_fill 42 = .ok (.imul, 1) := by decide +kernel
theorem zd_XTexture_fill_43 : decode zb_XTexture_fill 43 = .ok (.iconst 2, 1) := by decide +kernel
theorem zd_XTexture_fill_44 : decode zb_XTexture_fill 44 = .ok (.iadd, 1) := by decide +kernel
theorem zd_XTexture_fill_45 : decode zb_XTexture_fill 45 = .ok (.iaload, 1) := by decide +kernel
theorem zd_XTexture_fill_46 : decode zb_XTexture_fill 46 = .ok (.ior, 1) := by decide +kernel
theorem zd_XTexture_fill_47 : decode zb_XTexture_fill 47 = .ok (.iastore, 1) := by decide +kernel
theorem zd_XTexture_fill_48 : decode zb_XTexture_fill 48 = .ok (.iinc 2 1, 3) := by decide +kernel
theorem zd_XTexture_fill_51 : decode zb_XTexture_fill 51 = .ok (.goto (-49), 3) := by decide +kernel
theorem zd_XTexture_fill_54 : decode zb_XTexture_fill 54 = .ok (.aload_n 0, 1) := by decide +kernel
theorem zd_XTexture_fill_55 : decode zb_XTexture_fill 55 = .ok (.iconst 0, 1) := by decide +kernel
theorem zd_XTexture_fill_56 : decode zb_XTexture_fill 56 = .ok (.putfield 20, 3) := by decide +kernel
theorem zd_XTexture_fill_59 : decode zb_XTexture_fill 59 = .ok (.aload_n 0, 1) := by decide +kernel
theorem zd_XTexture_fill_60 : decode zb_XTexture_fill 60 = .ok (.getfield 16, 3) := by decide +kernel
theorem zd_XTexture_fill_63 : decode zb_XTexture_fill 63 = .ok (.istore_n 2, 1) := by decide +kernel
theorem zd_XTexture_fill_64 : decode zb_XTexture_fill 64 = .ok (.iload_n 2, 1) := by decide +kernel
theorem zd_XTexture_fill_65 : decode zb_XTexture_fill 65 = .ok (.iconst 1, 1) := by decide +kernel
theorem zd_XTexture_fill_66 : decode zb_XTexture_fill 66 = .ok (.if_icmp .le 83, 3) := by decide +kernel
theorem zd_XTexture_fill_69 : decode zb_XTexture_fill 69 = .ok (.aload_n 0, 1) := by decide +kernel
theorem zd_XTexture_fill_70 : decode zb_XTexture_fill 70 = .ok (.getfield 20, 3) := by decide +kernel
theorem zd_XTexture_fill_73 : decode zb_XTexture_fill 73 = .ok (.iconst 1, 1) := by decide +kernel
theorem zd_XTexture_fill_74 : decode zb_XTexture_fill 74 = .ok (.iadd, 1) := by decide +kernel
theorem zd_XTexture_fill_75 : decode zb_XTexture_fill 75 = .ok (.aload_n 0, 1) := by decide +kernel
theorem zd_XTexture_fill_76 : decode zb_XTexture_fill 76 = .ok (.getfield 13, 3) := by decide +kernel
theorem zd_XTexture_fill_79 : decode zb_XTexture_fill 79 = .ok (.arraylength, 1) := by decide +kernel
theorem zd_XTexture_fill_80 : decode zb_XTexture_fill 80 = .ok (.if_icmp .ge 69, 3) := by decide +kernel
theorem zd_XTexture_fill_83 : decode zb_XTexture_fill 83 = .ok (.aload_n 0, 1) := by decide +kernel
theorem zd_XTexture_fill_84 : decode zb_XTexture_fill 84 = .ok (.getfield 13, 3) := by decide +kernel
theorem zd_XTexture_fill_87 : decode zb_XTexture_fill 87 = .ok (.aload_n 0, 1) := by decide +kernel
theorem zd_XTexture_fill_88 : decode zb_XTexture_fill 88 = .ok (.getfield 20, 3) := by decide +kernel
theorem zd_XTexture_fill_91 : decode zb_XTexture_fill 91 = .ok (.iconst 1, 1) := by decide +kernel
theorem zd_XTexture_fill_92 : decode zb_XTexture_fill 92 = .ok (.iadd, 1) := by decide +kernel
theorem zd_XTexture_fill_93 : decode zb_XTexture_fill 93 = .ok (.aload_n 0, 1) := by decide +kernel
theorem zd_XTexture_fill_94 : decode zb_XTexture_fill 94 = .ok (.getfield 13, 3) := by decide +kernel
theorem zd_XTexture_fill_97 : decode zb_XTexture_fill 97 = .ok (.aload_n 0, 1) := by decide +kernel
theorem zd_XTexture_fill_98 : decode zb_XTexture_fill 98 = .ok (.getfield 20, 3) := by decide +kernel
theorem zd_XTexture_fill_101 : decode zb_XTexture_fill 101 = .ok (.iaload, 1) := by decide +kernel
theorem zd_XTexture_fill_102 : decode zb_XTexture_fill 102 = .ok (.iload_n 2, 1) := by decide +kernel
theorem zd_XTexture_fill_103 : decode zb_XTexture_fill 103 = .ok (.iload_n 2, 1) := by decide +kernel
theorem zd_XTexture_fill_104 : decode zb_XTexture_fill 104 = .ok (.imul, 1) := by decide +kernel
theorem zd_XTexture_fill_105 : decode zb_XTexture_fill 105 = .ok (.iadd, 1) := by decide +kernel
theorem zd_XTexture_fill_106 : decode zb_XTexture_fill 106 = .ok (.iastore, 1) := by decide +kernel
theorem zd_XTexture_fill_107 : decode zb_XTexture_fill 107 = .ok (.aload_n 0, 1) := by decide +kernel
theorem zd_XTexture_fill_108 : decode zb_XTexture_fill 108 = .ok (.aload_n 0, 1) := by decide +kernel
theorem zd_XTexture_fill_109 : decode zb_XTexture_fill 109 = .ok (.getfield 13, 3) := by decide +kernel
theorem zd_XTexture_fill_112 : decode zb_XTexture_fill 112 = .ok (.aload_n 0, 1) := by decide +kernel
theorem zd_XTexture_fill_113 : decode zb_XTexture_fill 113 = .ok (.getfield 20, 3) := by decide +kernel
theorem zd_XTexture_fill_116 : decode zb_XTexture_fill 116 = .ok (.iaload, 1) := by decide +kernel
theorem zd_XTexture_fill_117 : decode zb_XTexture_fill 117 = .ok (.iload_n 2, 1) := by decide +kernel
theorem zd_XTexture_fill_118 : decode zb_XTexture_fill 118 = .ok (.aload_n 0, 1) := by decide +kernel
theorem zd_XTexture_fill_119 : decode zb_XTexture_fill 119 = .ok (.getfield 13, 3) := by decide +kernel
theorem zd_XTexture_fill_122 : decode zb_XTexture_fill 122 = .ok (.aload_n 0, 1) := by decide +kernel
theorem zd_XTexture_fill_123 : decode zb_XTexture_fill 123 = .ok (.getfield 20, 3) := by decide +kernel
theorem zd_XTexture_fill_126 : decode zb_XTexture_fill 126 = .ok (.iconst 1, 1) := by decide +kernel
theorem zd_XTexture_fill_127 : decode zb_XTexture_fill 127 = .ok (.iadd, 1) := by decide +kernel
theorem zd_XTexture_fill_128 : decode zb_XTexture_fill 128 = .ok (.iaload, 1) := by decide +kernel
theorem zd_XTexture_fill_129 : decode zb_XTexture_fill 129 = .ok (.invokevirtual 23, 3) := by decide +kernel
theorem zd_XTexture_fill_132 : decode zb_XTexture_fill 132 = .ok (.aload_n 0, 1) := by decide +kernel
theorem zd_XTexture_fill_133 : decode zb_XTexture_fill 133 = .ok (.dup, 1) := by decide +kernel
theorem zd_XTexture_fill_134 : decode zb_XTexture_fill 134 = .ok (.getfield 20, 3) := by decide +kernel
theorem zd_XTexture_fill_137 : decode zb_XTexture_fill 137 = .ok (.iconst 1, 1) := by decide +kernel
theorem zd_XTexture_fill_138 : decode zb_XTexture_fill 138 = .ok (.iadd, 1) := by decide +kernel
theorem zd_XTexture_fill_139 : decode zb_XTexture_fill 139 = .ok (.putfield 20, 3) := by decide +kernel
theorem zd_XTexture_fill_142 : decode zb_XTexture_fill 142 = .ok (.iload_n 2, 1) := by decide +kernel
theorem zd_XTexture_fill_143 : decode zb_XTexture_fill 143 = .ok (.iconst 2, 1) := by decide +kernel
theorem zd_XTexture_fill_144 : decode zb_XTexture_fill 144 = .ok (.idiv, 1) := by decide +kernel
theorem zd_XTexture_fill_145 : decode zb_XTexture_fill 145 = .ok (.istore_n 2, 1) := by decide +kernel
theorem zd_XTexture_fill_146 : decode zb_XTexture_fill 146 = .ok (.goto (-82), 3) := by decide +kernel
theorem zd_XTexture_fill_149 : decode zb_XTexture_fill 149 = .ok (.return_, 1) := by decide +kernel
def L_XTexture_fill_2 (sh : zSh) (fuel : Nat) (v0 : Nat) (v1 : Nat) (v2 : Int32) (mm : zMem) : Option (Nat × Nat × Int32 × zMem) := match fuel with
  | 0 => none
  | fu + 1 => zoS (sh v0) 10 (fun le2 => zoS (sh v0) 10 (fun le4 => (if ((mm.1 v0 0) * (mm.1 v0 0)) ≤ v2 then some (v0, v1, v2, mm) else zoS (sh v0) 10 (fun le7 => Option.bind (mm.2.2 v0 4) (fun a8 => zoL (3 * v2) (fun i9 => zoS (sh v1) 100 (fun le11 => if (i9 : Int32) < 0 ∨ le11 ≤ (i9 : Int32).toNatClampNeg then none else zoL ((3 * v2) + 1) (fun i13 => zoS (sh v1) 100 (fun le15 => if (i13 : Int32) < 0 ∨ le15 ≤ (i13 : Int32).toNatClampNeg then none else zoL ((3 * v2) + 2) (fun i17 => zoS (sh v1) 100 (fun le19 => if (i17 : Int32) < 0 ∨ le19 ≤ (i17 : Int32).toNatClampNeg then none else zoL ((((mm.1 v1 (i9 : Int32).toNatClampNeg) <<< (16 &&& 31)) ||| ((mm.1 v1 (i13 : Int32).toNatClampNeg) <<< (8 &&& 31))) ||| (mm.1 v1 (i17 : Int32).toNatClampNeg)) (fun x21 => zoS (sh a8) 100 (fun le23 => if (v2 : Int32) < 0 ∨ le23 ≤ (v2 : Int32).toNatClampNeg then none else zoL (mI mm a8 (v2 : Int32).toNatClampNeg x21) (fun mm25 => L_XTexture_fill_2 sh fu v0 v1 (v2 + 1) mm25))))))))))))))
set_option maxHeartbeats 4000000 in
set_option maxRecDepth 100000 in
theorem lp_XTexture_fill_2 {p : Program} {l : Launch} {e : Env} {s : State} {m : MethodId} {args : Array Value} {below : List Frame} {meth : Method} {c : Code} {D : va_G} {tA : Nat → ClassId} {b n : Nat} {post : Option Value → zV → Nat → Prop} {sh : zSh} (F : zF p s m args meth c zb_XTexture_fill 3 "OrreryBox$Texture" D tA b) : ∀ (fuel : Nat) (v0 : Nat) (v1 : Nat) (v2 : Int32) (mm : zMem) (r : Nat × Nat × Int32 × zMem), L_XTexture_fill_2 sh fuel v0 v1 v2 mm = some r → (Z p l e { frames := 2, cells := 0, slots := 0, locals := 53 } s m args below meth c D b 3 (MQ below (zQ D b post) args s 0 0 (fun q => b ≤ q)) (zW tA b sh r.2.2.2) n 0 0 54 [(0, .ref (b + (r.1))), (1, .ref (b + (r.2.1))), (2, .int (r.2.2.1))] []) → Z p l e { frames := 2, cells := 0, slots := 0, locals := 53 } s m args below meth c D b 3 (MQ below (zQ D b post) args s 0 0 (fun q => b ≤ q)) (zW tA b sh mm) n 0 0 2 [(0, .ref (b + v0)), (1, .ref (b + v1)), (2, .int v2)] [] := by
  intro fuel
  induction fuel with
  | zero =>
    intro v0 v1 v2 mm r h
    cases h
  | succ fu ih =>
    intro v0 v1 v2 mm r h hx0
    rw [L_XTexture_fill_2] at h
    refine zr_iload_n F zd_XTexture_fill_2 rfl ?_
    refine zr_aload_n F zd_XTexture_fill_3 rfl ?_
    obtain ⟨le2, hs1, h⟩ := zoS_s h
    refine zr_get F 10 0 zd_XTexture_fill_4 (zW_o hs1 (by decide)) rfl (by decide) zw_148 rfl (by rfl) ?_
    refine zr_aload_n F zd_XTexture_fill_7 rfl ?_
    obtain ⟨le4, hs3, h⟩ := zoS_s h
    refine zr_get F 10 0 zd_XTexture_fill_8 (zW_o hs3 (by decide)) rfl (by decide) zw_148 rfl (by rfl) ?_
    refine zr_pcn 11 rfl ?_
    refine zr_imul F zd_XTexture_fill_11 ?_
    refine zr_icmp_ge F 54 zd_XTexture_fill_12 (by decide) (fun hb5 => ?_) (fun hb5 => ?_)
    ·
      replace h := (if_pos hb5).symm.trans h
      obtain rfl := Option.some.inj h
      refine zr_loc (L' := [(0, .ref (b + v0)), (1, .ref (b + v1)), (2, .int v2)]) ⟨rfl, rfl, rfl, trivial⟩ ?_
      exact hx0 
    ·
      replace h := (if_neg hb5).symm.trans h
      refine zr_aload_n F zd_XTexture_fill_15 rfl ?_
      obtain ⟨le7, hs6, h⟩ := zoS_s h
      obtain ⟨a8, ea8, h⟩ := zoB_s h
      refine zr_get F 10 4 zd_XTexture_fill_16 (zW_o hs6 (by decide)) rfl (by decide) zw_155 rfl (by rfl) ?_
      refine zr_tor ea8 ?_
      refine zr_iload_n F zd_XTexture_fill_19 rfl ?_
      refine zr_aload_n F zd_XTexture_fill_20 rfl ?_
      refine zr_iconstv (v := 3) F zd_XTexture_fill_21 (by decide) ?_
      refine zr_iload_n F zd_XTexture_fill_22 rfl ?_
      refine zr_pcn 23 rfl ?_
      refine zr_imul F zd_XTexture_fill_23 ?_
      obtain ⟨i9, ei9, h⟩ := zoL_s h
      rw [← ei9]
      obtain ⟨le11, hs10, h⟩ := zoS_s h
      obtain ⟨hi12, h⟩ := zoI_s h
      refine zr_iald F zd_XTexture_fill_24 (zW_a0 hs10) hi12 ?_
      refine zr_bipushv (v := 16) F zd_XTexture_fill_25 (by decide) ?_
      refine zr_ishl F zd_XTexture_fill_27 ?_
      refine zr_aload_n F zd_XTexture_fill_28 rfl ?_
      refine zr_iconstv (v := 3) F zd_XTexture_fill_29 (by decide) ?_
      refine zr_iload_n F zd_XTexture_fill_30 rfl ?_
      refine zr_imul F zd_XTexture_fill_31 ?_
      refine zr_pcn 32 rfl ?_
      refine zr_iconstv (v := 1) F zd_XTexture_fill_32 (by decide) ?_
      refine zr_iadd F zd_XTexture_fill_33 ?_
      obtain ⟨i13, ei13, h⟩ := zoL_s h
      rw [← ei13]
      obtain ⟨le15, hs14, h⟩ := zoS_s h
      obtain ⟨hi16, h⟩ := zoI_s h
      refine zr_iald F zd_XTexture_fill_34 (zW_a0 hs14) hi16 ?_
      refine zr_bipushv (v := 8) F zd_XTexture_fill_35 (by decide) ?_
      refine zr_ishl F zd_XTexture_fill_37 ?_
      refine zr_ior F zd_XTexture_fill_38 ?_
      refine zr_aload_n F zd_XTexture_fill_39 rfl ?_
      refine zr_iconstv (v := 3) F zd_XTexture_fill_40 (by decide) ?_
      refine zr_pcn 41 rfl ?_
      refine zr_iload_n F zd_XTexture_fill_41 rfl ?_
      refine zr_imul F zd_XTexture_fill_42 ?_
      refine zr_iconstv (v := 2) F zd_XTexture_fill_43 (by decide) ?_
      refine zr_iadd F zd_XTexture_fill_44 ?_
      obtain ⟨i17, ei17, h⟩ := zoL_s h
      rw [← ei17]
      obtain ⟨le19, hs18, h⟩ := zoS_s h
      obtain ⟨hi20, h⟩ := zoI_s h
      refine zr_iald F zd_XTexture_fill_45 (zW_a0 hs18) hi20 ?_
      refine zr_ior F zd_XTexture_fill_46 ?_
      obtain ⟨x21, ex21, h⟩ := zoL_s h
      rw [← ex21]
      obtain ⟨le23, hs22, h⟩ := zoS_s h
      obtain ⟨hi24, h⟩ := zoI_s h
      refine zr_iast F zd_XTexture_fill_47 (zW_a0 hs22) hi24 ?_
      obtain ⟨mm25, emm25, h⟩ := zoL_s h
      refine zr_norm (zW tA b sh mm25) _ (by rw [emm25]; exact zW_s0 hs22) rfl ?_
      refine zr_iinc (v := (v2 + 1)) F zd_XTexture_fill_48 rfl rfl (by decide) ?_
      refine zr_pcn 51 rfl ?_
      refine zr_goto F 2 zd_XTexture_fill_51 (by decide) ?_
      refine zr_loc (L' := [(0, .ref (b + v0)), (1, .ref (b + v1)), (2, .int (v2 + 1))]) ⟨rfl, rfl, rfl, trivial⟩ ?_
      exact ih _ _ _ _ _ h hx0
theorem zf_I_10_3 (b : Nat) (m : zMem) (k : Nat) (v : Int32) : (zfl b 10 m k).set 3 (.int v) = zfl b 10 (mI m k 3 v) k := by simp [zfl, mI, upd, vp_updL]
theorem zw_1236 : (Jvm.Cond.methodLink "OrreryBox$Texture" (23 : Nat) ({ cls := "OrreryBox$Texture", name := "halve", desc := "(III)V" } : Jvm.MethodName)) ∈ gw := gw_t 1236 (by decide +kernel) rfl
theorem zw_1238 : (Jvm.Cond.instanceMethod ({ cls := "OrreryBox$Texture", name := "halve", desc := "(III)V" } : Jvm.MethodName)) ∈ gw := gw_t 1238 (by decide +kernel) rfl
theorem zv_62 : (Jvm.Cond.selects "OrreryBox$Texture" (⟨"OrreryBox$Texture", "halve", "(III)V"⟩ : MethodName) ⟨"OrreryBox$Texture", "halve", "(III)V"⟩) ∈ gw := gw_s 62 (by decide +kernel) rfl
theorem zs_XTexture_23 : zwV "OrreryBox$Texture" 23 "OrreryBox$Texture" zy_XTexture_halve zb_XTexture_halve 8 none := ⟨zw_1236, zw_1238, zv_62, zw_6, zc_XTexture_halve⟩
def L_XTexture_fill_64 (sh : zSh) (fuel : Nat) (v0 : Nat) (v2 : Int32) (mm : zMem) : Option (Nat × Int32 × zMem) := match fuel with
  | 0 => none
  | fu + 1 => (if v2 ≤ 1 then some (v0, v2, mm) else zoS (sh v0) 10 (fun le35 => zoS (sh v0) 10 (fun le37 => Option.bind (mm.2.2 v0 5) (fun a38 => zoA (sh a38) (fun t41 le40 => (if (Int32.ofNat le40) ≤ ((mm.1 v0 3) + 1) then some (v0, v2, mm) else zoS (sh v0) 10 (fun le44 => Option.bind (mm.2.2 v0 5) (fun a45 => zoS (sh v0) 10 (fun le47 => zoS (sh v0) 10 (fun le49 => Option.bind (mm.2.2 v0 5) (fun a50 => zoS (sh v0) 10 (fun le52 => zoL (mm.1 v0 3) (fun i53 => zoS (sh a50) 100 (fun le55 => if (i53 : Int32) < 0 ∨ le55 ≤ (i53 : Int32).toNatClampNeg then none else zoL ((mm.1 a50 (i53 : Int32).toNatClampNeg) + (v2 * v2)) (fun x57 => zoL (i53 + 1) (fun i58 => zoS (sh a45) 100 (fun le60 => if (i58 : Int32) < 0 ∨ le60 ≤ (i58 : Int32).toNatClampNeg then none else zoL (mI mm a45 (i58 : Int32).toNatClampNeg x57) (fun mm62 => zoS (sh v0) 10 (fun le64 => Option.bind (mm62.2.2 v0 5) (fun a65 => zoS (sh v0) 10 (fun le67 => zoL (mm62.1 v0 3) (fun i68 => zoS (sh a65) 100 (fun le70 => if (i68 : Int32) < 0 ∨ le70 ≤ (i68 : Int32).toNatClampNeg then none else zoS (sh v0) 10 (fun le73 => Option.bind (mm62.2.2 v0 5) (fun a74 => zoS (sh v0) 10 (fun le76 => zoL ((mm62.1 v0 3) + 1) (fun i77 => zoS (sh a74) 100 (fun le79 => if (i77 : Int32) < 0 ∨ le79 ≤ (i77 : Int32).toNatClampNeg then none else zoS (sh v0) 10 (fun le82 => zoL (mm62.1 a65 (i68 : Int32).toNatClampNeg) (fun x83 => zoL (mm62.1 a74 (i77 : Int32).toNatClampNeg) (fun x84 => Option.bind (F_XTexture_halve sh mm62 v0 x83 v2 x84) (fun p85 => zoS (sh v0) 10 (fun le87 => zoL ((p85.1 v0 3) + 1) (fun x88 => zoS (sh v0) 10 (fun le90 => zoL (mI p85 v0 3 x88) (fun mm91 => zoL (v2 / 2) (fun x92 => L_XTexture_fill_64 sh fu v0 x92 mm91)))))))))))))))))))))))))))))))))))))
set_option maxHeartbeats 4000000 in
set_option maxRecDepth 100000 in
theorem lp_XTexture_fill_64 {p : Program} {l : Launch} {e : Env} {s : State} {m : MethodId} {args : Array Value} {below : List Frame} {meth : Method} {c : Code} {D : va_G} {tA : Nat → ClassId} {b n : Nat} {post : Option Value → zV → Nat → Prop} {sh : zSh} (F : zF p s m args meth c zb_XTexture_fill 3 "OrreryBox$Texture" D tA b) : ∀ (fuel : Nat) (v0 : Nat) (v2 : Int32) (mm : zMem) (r : Nat × Int32 × zMem), L_XTexture_fill_64 sh fuel v0 v2 mm = some r → (Z p l e { frames := 2, cells := 0, slots := 0, locals := 53 } s m args below meth c D b 3 (MQ below (zQ D b post) args s 0 0 (fun q => b ≤ q)) (zW tA b sh r.2.2) n 0 0 149 [(0, .ref (b + (r.1))), (2, .int (r.2.1))] []) → Z p l e { frames := 2, cells := 0, slots := 0, locals := 53 } s m args below meth c D b 3 (MQ below (zQ D b post) args s 0 0 (fun q => b ≤ q)) (zW tA b sh mm) n 0 0 64 [(0, .ref (b + v0)), (2, .int v2)] [] := by
  intro fuel
  induction fuel with
  | zero =>
    intro v0 v2 mm r h
    cases h
  | succ fu ih =>
    intro v0 v2 mm r h hx0
    rw [L_XTexture_fill_64] at h
    refine zr_iload_n F zd_XTexture_fill_64 rfl ?_
    refine zr_pcn 65 rfl ?_
    refine zr_iconstv (v := 1) F zd_XTexture_fill_65 (by decide) ?_
    refine zr_icmp_le F 149 zd_XTexture_fill_66 (by decide) (fun hb33 => ?_) (fun hb33 => ?_)
    ·
      replace h := (if_pos hb33).symm.trans h
      obtain rfl := Option.some.inj h
      refine zr_loc (L' := [(0, .ref (b + v0)), (2, .int v2)]) ⟨rfl, rfl, trivial⟩ ?_
      exact hx0 
    ·
      replace h := (if_neg hb33).symm.trans h
      refine zr_aload_n F zd_XTexture_fill_69 rfl ?_
      obtain ⟨le35, hs34, h⟩ := zoS_s h
      refine zr_get F 10 3 zd_XTexture_fill_70 (zW_o hs34 (by decide)) rfl (by decide) zw_154 rfl (by rfl) ?_
      refine zr_iconstv (v := 1) F zd_XTexture_fill_73 (by decide) ?_
      refine zr_iadd F zd_XTexture_fill_74 ?_
      refine zr_aload_n F zd_XTexture_fill_75 rfl ?_
      obtain ⟨le37, hs36, h⟩ := zoS_s h
      obtain ⟨a38, ea38, h⟩ := zoB_s h
      refine zr_get F 10 5 zd_XTexture_fill_76 (zW_o hs36 (by decide)) rfl (by decide) zw_156 rfl (by rfl) ?_
      refine zr_tor ea38 ?_
      refine zr_pcn 79 rfl ?_
      obtain ⟨t41, le40, hs39, h⟩ := zoA_s h
      refine zr_lenW F zd_XTexture_fill_79 hs39 ?_
      refine zr_icmp_ge F 149 zd_XTexture_fill_80 (by decide) (fun hb42 => ?_) (fun hb42 => ?_)
      ·
        replace h := (if_pos hb42).symm.trans h
        obtain rfl := Option.some.inj h
        refine zr_loc (L' := [(0, .ref (b + v0)), (2, .int v2)]) ⟨rfl, rfl, trivial⟩ ?_
        exact hx0 
      ·
        replace h := (if_neg hb42).symm.trans h
        refine zr_aload_n F zd_XTexture_fill_83 rfl ?_
        obtain ⟨le44, hs43, h⟩ := zoS_s h
        obtain ⟨a45, ea45, h⟩ := zoB_s h
        refine zr_get F 10 5 zd_XTexture_fill_84 (zW_o hs43 (by decide)) rfl (by decide) zw_156 rfl (by rfl) ?_
        refine zr_tor ea45 ?_
        refine zr_aload_n F zd_XTexture_fill_87 rfl ?_
        obtain ⟨le47, hs46, h⟩ := zoS_s h
        refine zr_get F 10 3 zd_XTexture_fill_88 (zW_o hs46 (by decide)) rfl (by decide) zw_154 rfl (by rfl) ?_
        refine zr_iconstv (v := 1) F zd_XTexture_fill_91 (by decide) ?_
        refine zr_iadd F zd_XTexture_fill_92 ?_
        refine zr_pcn 93 rfl ?_
        refine zr_aload_n F zd_XTexture_fill_93 rfl ?_
        obtain ⟨le49, hs48, h⟩ := zoS_s h
        obtain ⟨a50, ea50, h⟩ := zoB_s h
        refine zr_get F 10 5 zd_XTexture_fill_94 (zW_o hs48 (by decide)) rfl (by decide) zw_156 rfl (by rfl) ?_
        refine zr_tor ea50 ?_
        refine zr_aload_n F zd_XTexture_fill_97 rfl ?_
        obtain ⟨le52, hs51, h⟩ := zoS_s h
        refine zr_get F 10 3 zd_XTexture_fill_98 (zW_o hs51 (by decide)) rfl (by decide) zw_154 rfl (by rfl) ?_
        obtain ⟨i53, ei53, h⟩ := zoL_s h
        rw [← ei53]
        obtain ⟨le55, hs54, h⟩ := zoS_s h
        obtain ⟨hi56, h⟩ := zoI_s h
        refine zr_iald F zd_XTexture_fill_101 (zW_a0 hs54) hi56 ?_
        refine zr_iload_n F zd_XTexture_fill_102 rfl ?_
        refine zr_iload_n F zd_XTexture_fill_103 rfl ?_
        refine zr_imul F zd_XTexture_fill_104 ?_
        refine zr_pcn 105 rfl ?_
        refine zr_iadd F zd_XTexture_fill_105 ?_
        obtain ⟨x57, ex57, h⟩ := zoL_s h
        rw [← ex57]
        obtain ⟨i58, ei58, h⟩ := zoL_s h
        rw [← ei58]
        obtain ⟨le60, hs59, h⟩ := zoS_s h
        obtain ⟨hi61, h⟩ := zoI_s h
        refine zr_iast F zd_XTexture_fill_106 (zW_a0 hs59) hi61 ?_
        obtain ⟨mm62, emm62, h⟩ := zoL_s h
        refine zr_norm (zW tA b sh mm62) _ (by rw [emm62]; exact zW_s0 hs59) rfl ?_
        refine zr_aload_n F zd_XTexture_fill_107 rfl ?_
        refine zr_aload_n F zd_XTexture_fill_108 rfl ?_
        obtain ⟨le64, hs63, h⟩ := zoS_s h
        obtain ⟨a65, ea65, h⟩ := zoB_s h
        refine zr_get F 10 5 zd_XTexture_fill_109 (zW_o hs63 (by decide)) rfl (by decide) zw_156 rfl (by rfl) ?_
        refine zr_tor ea65 ?_
        refine zr_aload_n F zd_XTexture_fill_112 rfl ?_
        obtain ⟨le67, hs66, h⟩ := zoS_s h
        refine zr_get F 10 3 zd_XTexture_fill_113 (zW_o hs66 (by decide)) rfl (by decide) zw_154 rfl (by rfl) ?_
        obtain ⟨i68, ei68, h⟩ := zoL_s h
        rw [← ei68]
        obtain ⟨le70, hs69, h⟩ := zoS_s h
        obtain ⟨hi71, h⟩ := zoI_s h
        refine zr_iald F zd_XTexture_fill_116 (zW_a0 hs69) hi71 ?_
        refine zr_pcn 117 rfl ?_
        refine zr_iload_n F zd_XTexture_fill_117 rfl ?_
        refine zr_aload_n F zd_XTexture_fill_118 rfl ?_
        obtain ⟨le73, hs72, h⟩ := zoS_s h
        obtain ⟨a74, ea74, h⟩ := zoB_s h
        refine zr_get F 10 5 zd_XTexture_fill_119 (zW_o hs72 (by decide)) rfl (by decide) zw_156 rfl (by rfl) ?_
        refine zr_tor ea74 ?_
        refine zr_aload_n F zd_XTexture_fill_122 rfl ?_
        obtain ⟨le76, hs75, h⟩ := zoS_s h
        refine zr_get F 10 3 zd_XTexture_fill_123 (zW_o hs75 (by decide)) rfl (by decide) zw_154 rfl (by rfl) ?_
        refine zr_iconstv (v := 1) F zd_XTexture_fill_126 (by decide) ?_
        refine zr_iadd F zd_XTexture_fill_127 ?_
        obtain ⟨i77, ei77, h⟩ := zoL_s h
        rw [← ei77]
        obtain ⟨le79, hs78, h⟩ := zoS_s h
        obtain ⟨hi80, h⟩ := zoI_s h
        refine zr_iald F zd_XTexture_fill_128 (zW_a0 hs78) hi80 ?_
        refine zr_pcn 129 rfl ?_
        obtain ⟨le82, hs81, h⟩ := zoS_s h
        obtain ⟨x83, ex83, h⟩ := zoL_s h
        rw [← ex83]
        obtain ⟨x84, ex84, h⟩ := zoL_s h
        rw [← ex84]
        obtain ⟨p85, ep85, h⟩ := zoB_s h
        refine zr_callV0 F (k_XTexture_halve l D tA b sh _ ep85) zd_XTexture_fill_129 (zW_o hs81 (by decide)) rfl zs_XTexture_23 rfl zq_XTexture_halve rfl rfl ⟨(Nat.le_of_ble_eq_true rfl), (Nat.le_of_ble_eq_true rfl)⟩ (Nat.le_of_ble_eq_true rfl) ⟨(Nat.le_of_ble_eq_true rfl), (Nat.le_of_ble_eq_true rfl)⟩ ?_
        refine zr_aload_n F zd_XTexture_fill_132 rfl ?_
        refine zr_dup F zd_XTexture_fill_133 rfl ?_
        obtain ⟨le87, hs86, h⟩ := zoS_s h
        refine zr_get F 10 3 zd_XTexture_fill_134 (zW_o hs86 (by decide)) rfl (by decide) zw_154 rfl (by rfl) ?_
        refine zr_iconstv (v := 1) F zd_XTexture_fill_137 (by decide) ?_
        refine zr_iadd F zd_XTexture_fill_138 ?_
        obtain ⟨x88, ex88, h⟩ := zoL_s h
        rw [← ex88]
        obtain ⟨le90, hs89, h⟩ := zoS_s h
        refine zr_put F 10 3 zd_XTexture_fill_139 (zW_o hs89 (by decide)) rfl (by decide) zw_154 rfl rfl rfl rfl (by exact (Nat.le_of_ble_eq_true rfl)) ?_
        obtain ⟨mm91, emm91, h⟩ := zoL_s h
        refine zr_norm (zW tA b sh mm91) _ (by rw [emm91]; exact zW_pI (v := x88) hs89 (by decide) (zf_I_10_3 b _ _ _)) rfl ?_
        refine zr_iload_n F zd_XTexture_fill_142 rfl ?_
        refine zr_pcn 143 rfl ?_
        refine zr_iconstv (v := 2) F zd_XTexture_fill_143 (by decide) ?_
        refine zr_idiv F zd_XTexture_fill_144 (by decide) ?_
        obtain ⟨x92, ex92, h⟩ := zoL_s h
        rw [← ex92]
        refine zr_istore_n F zd_XTexture_fill_145 (by decide) ?_
        refine zr_goto F 64 zd_XTexture_fill_146 (by decide) ?_
        refine zr_loc (L' := [(0, .ref (b + v0)), (2, .int x92)]) ⟨rfl, rfl, trivial⟩ ?_
        exact ih _ _ _ _ h hx0
def F_XTexture_fill (sh : zSh) (mm : zMem) (o : Nat) (x0_ : Nat) : Option zMem := Option.bind (L_XTexture_fill_2 sh zfuel o x0_ 0 mm) (fun q26 => zoS (sh (q26.1)) 10 (fun le28 => zoL (mI (q26.2.2.2) (q26.1) 3 0) (fun mm29 => zoS (sh (q26.1)) 10 (fun le31 => zoL (mm29.1 (q26.1) 0) (fun x32 => Option.bind (L_XTexture_fill_64 sh zfuel (q26.1) x32 mm29) (fun q93 => some (q93.2.2)))))))
set_option maxHeartbeats 4000000 in
set_option maxRecDepth 100000 in
theorem k_XTexture_fill (l : Launch) (D : va_G) (tA : Nat → ClassId) (b : Nat) (sh : zSh) (n : Nat) {mm : zMem} {o : Nat} {x0_ : Nat} {r : zMem} (h : F_XTexture_fill sh mm o x0_ = some r) : zM l D tA b zy_XTexture_fill zb_XTexture_fill 3 none 2 53 0 0 [.ref (b + o), .ref (b + x0_)] (zW tA b sh mm) n (zE none (zW tA b sh r) n) := by
  unfold F_XTexture_fill at h
  refine zM_of (own := "OrreryBox$Texture") (plainFor_of_name (by decide)) rfl (Nat.le_of_ble_eq_true rfl) (fun p e s m below meth c F hr hin hH => ?_)
  refine zr_iconstv (v := 0) F zd_XTexture_fill_0 (by decide) ?_
  refine zr_istore_n F zd_XTexture_fill_1 (by decide) ?_
  obtain ⟨q26, eq26, h⟩ := zoB_s h
  refine zr_loc (L' := [(0, .ref (b + o)), (1, .ref (b + x0_)), (2, .int 0)]) ⟨rfl, rfl, rfl, trivial⟩ ?_
  refine lp_XTexture_fill_2 F _ _ _ _ _ _ eq26 ?_
  ·
    refine zr_aload_n F zd_XTexture_fill_54 rfl ?_
    refine zr_iconstv (v := 0) F zd_XTexture_fill_55 (by decide) ?_
    obtain ⟨le28, hs27, h⟩ := zoS_s h
    refine zr_put F 10 3 zd_XTexture_fill_56 (zW_o hs27 (by decide)) rfl (by decide) zw_154 rfl rfl rfl rfl (by exact (Nat.le_of_ble_eq_true rfl)) ?_
    obtain ⟨mm29, emm29, h⟩ := zoL_s h
    refine zr_norm (zW tA b sh mm29) _ (by rw [emm29]; exact zW_pI (v := 0) hs27 (by decide) (zf_I_10_3 b _ _ _)) rfl ?_
    refine zr_aload_n F zd_XTexture_fill_59 rfl ?_
    obtain ⟨le31, hs30, h⟩ := zoS_s h
    refine zr_get F 10 0 zd_XTexture_fill_60 (zW_o hs30 (by decide)) rfl (by decide) zw_148 rfl (by rfl) ?_
    obtain ⟨x32, ex32, h⟩ := zoL_s h
    rw [← ex32]
    refine zr_istore_n F zd_XTexture_fill_63 (by decide) ?_
    obtain ⟨q93, eq93, h⟩ := zoB_s h
    refine zr_loc (L' := [(0, .ref (b + (q26.1))), (2, .int x32)]) ⟨rfl, rfl, trivial⟩ ?_
    refine lp_XTexture_fill_64 F _ _ _ _ _ eq93 ?_
    ·
      obtain rfl := Option.some.inj h
      exact zr_vret F hr zd_XTexture_fill_149 (Nat.le_of_ble_eq_true rfl) (Nat.le_of_ble_eq_true rfl) ⟨rfl, rfl, rfl⟩
abbrev zb_XTexture_softAt : ByteArray := prog_11_method_7_code
def zy_XTexture_softAt : MethodName := ⟨"OrreryBox$Texture", "softAt", "(IIJJ)I"⟩
theorem zc_XTexture_softAt : Cond.code zy_XTexture_softAt zb_XTexture_softAt 21 (some .int) ∈ gw := gw_t 847 (by decide +kernel) rfl
theorem zq_XTexture_softAt : zy_XTexture_softAt.cls ≠ "java/lang/invoke/MethodHandle" ∧ zy_XTexture_softAt.cls ≠ "java/lang/invoke/VarHandle" ∧ (parseMethodDescriptor zy_XTexture_softAt.desc).map (fun d => d.parameters.length) = some 4 := by decide +kernel
theorem zd_XTexture_softAt_0 : decode zb_XTexture_softAt 0 = .ok (.lload_n 3, 1) := by decide +kernel
theorem zd_XTexture_softAt_1 : decode zb_XTexture_softAt 1 = .ok (.bipush 16, 2) := by decide +kernel
theorem zd_XTexture_softAt_3 : decode zb_XTexture_softAt 3 = .ok (.lshr, 1) := by decide +kernel
theorem zd_XTexture_softAt_4 : decode zb_XTexture_softAt 4 = .ok (.lstore 7, 2) := by decide +kernel
theorem zd_XTexture_softAt_6 : decode zb_XTexture_softAt 6 = .ok (.lload 5, 2) := by decide +kernel
theorem zd_XTexture_softAt_8 : decode zb_XTexture_softAt 8 = .ok (.bipush 16, 2) := by decide +kernel
theorem zd_XTexture_softAt_10 : decode zb_XTexture_softAt 10 = .ok (.lshr, 1) := by decide +kernel
theorem zd_XTexture_softAt_11 : decode zb_XTexture_softAt 11 = .ok (.lstore 9, 2) := by decide +kernel
theorem zd_XTexture_softAt_13 : decode zb_XTexture_softAt 13 = .ok (.lload_n 3, 1) := by decide +kernel
theorem zd_XTexture_softAt_14 : decode zb_XTexture_softAt 14 = .ok (.lload 7, 2) := by decide +kernel
theorem zd_XTexture_softAt_16 : decode zb_XTexture_softAt 16 = .ok (.bipush 16, 2) := by decide +kernel
theorem zd_XTexture_softAt_18 : decode zb_XTexture_softAt 18 = .ok (.lshl, 1) := by decide +kernel
theorem zd_XTexture_softAt_19 : decode zb_XTexture_softAt 19 = .ok (.lsub, 1) := by decide +kernel
theorem zd_XTexture_softAt_20 : decode zb_XTexture_softAt 20 = .ok (.l2i, 1) := by decide +kernel
theorem zd_XTexture_softAt_21 : decode zb_XTexture_softAt 21 = .ok (.bipush 8, 2) := by decide +kernel
theorem zd_XTexture_softAt_23 : decode zb_XTexture_softAt 23 = .ok (.ishr, 1) := by decide +kernel
theorem zd_XTexture_softAt_24 : decode zb_XTexture_softAt 24 = .ok (.istore 11, 2) := by decide +kernel
theorem zd_XTexture_softAt_26 : decode zb_XTexture_softAt 26 = .ok (.lload 5, 2) := by decide +kernel
theorem zd_XTexture_softAt_28 : decode zb_XTexture_softAt 28 = .ok (.lload 9, 2) := by decide +kernel
theorem zd_XTexture_softAt_30 : decode zb_XTexture_softAt 30 = .ok (.bipush 16, 2) := by decide +kernel
theorem zd_XTexture_softAt_32 : decode zb_XTexture_softAt 32 = .ok (.lshl, 1) := by decide +kernel
theorem zd_XTexture_softAt_33 : decode zb_XTexture_softAt 33 = .ok (.lsub, 1) := by decide +kernel
theorem zd_XTexture_softAt_34 : decode zb_XTexture_softAt 34 = .ok (.l2i, 1) := by decide +kernel
theorem zd_XTexture_softAt_35 : decode zb_XTexture_softAt 35 = .ok (.bipush 8, 2) := by decide +kernel
theorem zd_XTexture_softAt_37 : decode zb_XTexture_softAt 37 = .ok (.ishr, 1) := by decide +kernel
theorem zd_XTexture_softAt_38 : decode zb_XTexture_softAt 38 = .ok (.istore 12, 2) := by decide +kernel
theorem zd_XTexture_softAt_40 : decode zb_XTexture_softAt 40 = .ok (.aload_n 0, 1) := by decide +kernel
theorem zd_XTexture_softAt_41 : decode zb_XTexture_softAt 41 = .ok (.iload_n 1, 1) := by decide +kernel
theorem zd_XTexture_softAt_42 : decode zb_XTexture_softAt 42 = .ok (.iload_n 2, 1) := by decide +kernel
theorem zd_XTexture_softAt_43 : decode zb_XTexture_softAt 43 = .ok (.lload 7, 2) := by decide +kernel
theorem zd_XTexture_softAt_45 : decode zb_XTexture_softAt 45 = .ok (.lload 9, 2) := by decide +kernel
theorem zd_XTexture_softAt_47 : decode zb_XTexture_softAt 47 = .ok (.invokevirtual 45, 3) := by decide +kernel
theorem zd_XTexture_softAt_50 : decode zb_XTexture_softAt 50 = .ok (.istore 13, 2) := by decide +kernel
theorem zd_XTexture_softAt_52 : decode zb_XTexture_softAt 52 = .ok (.aload_n 0, 1) := by decide +kernel
theorem zd_XTexture_softAt_53 : decode zb_XTexture_softAt 53 = .ok (.iload_n 1, 1) := by decide +kernel
theorem zd_XTexture_softAt_54 : decode zb_XTexture_softAt 54 = .ok (.iload_n 2, 1) := by decide +kernel
theorem zd_XTexture_softAt_55 : decode zb_XTexture_softAt 55 = .ok (.lload 7, 2) := by decide +kernel
theorem zd_XTexture_softAt_57 : decode zb_XTexture_softAt 57 = .ok (.lconst 1, 1) := by decide +kernel
theorem zd_XTexture_softAt_58 : decode zb_XTexture_softAt 58 = .ok (.ladd, 1) := by decide +kernel
theorem zd_XTexture_softAt_59 : decode zb_XTexture_softAt 59 = .ok (.lload 9, 2) := by decide +kernel
theorem zd_XTexture_softAt_61 : decode zb_XTexture_softAt 61 = .ok (.invokevirtual 45, 3) := by decide +kernel
theorem zd_XTexture_softAt_64 : decode zb_XTexture_softAt 64 = .ok (.istore 14, 2) := by decide +kernel
theorem zd_XTexture_softAt_66 : decode zb_XTexture_softAt 66 = .ok (.aload_n 0, 1) := by decide +kernel
theorem zd_XTexture_softAt_67 : decode zb_XTexture_softAt 67 = .ok (.iload_n 1, 1) := by decide +kernel
theorem zd_XTexture_softAt_68 : decode zb_XTexture_softAt 68 = .ok (.iload_n 2, 1) := by decide +kernel
theorem zd_XTexture_softAt_69 : decode zb_XTexture_softAt 69 = .ok (.lload 7, 2) := by decide +kernel
theorem zd_XTexture_softAt_71 : decode zb_XTexture_softAt 71 = .ok (.lload 9, 2) := by decide +kernel
theorem zd_XTexture_softAt_73 : decode zb_XTexture_softAt 73 = .ok (.lconst 1, 1) := by decide +kernel
theorem zd_XTexture_softAt_74 : decode zb_XTexture_softAt 74 = .ok (.ladd, 1) := by decide +kernel
theorem zd_XTexture_softAt_75 : decode zb_XTexture_softAt 75 = .ok (.invokevirtual 45, 3) := by decide +kernel
theorem zd_XTexture_softAt_78 : decode zb_XTexture_softAt 78 = .ok (.istore 15, 2) := by decide +kernel
theorem zd_XTexture_softAt_80 : decode zb_XTexture_softAt 80 = .ok (.aload_n 0, 1) := by decide +kernel
theorem zd_XTexture_softAt_81 : decode zb_XTexture_softAt 81 = .ok (.iload_n 1, 1) := by decide +kernel
theorem zd_XTexture_softAt_82 : decode zb_XTexture_softAt 82 = .ok (.iload_n 2, 1) := by decide +kernel
theorem zd_XTexture_softAt_83 : decode zb_XTexture_softAt 83 = .ok (.lload 7, 2) := by decide +kernel
theorem zd_XTexture_softAt_85 : decode zb_XTexture_softAt 85 = .ok (.lconst 1, 1) := by decide +kernel
theorem zd_XTexture_softAt_86 : decode zb_XTexture_softAt 86 = .ok (.ladd, 1) := by decide +kernel
theorem zd_XTexture_softAt_87 : decode zb_XTexture_softAt 87 = .ok (.lload 9, 2) := by decide +kernel
theorem zd_XTexture_softAt_89 : decode zb_XTexture_softAt 89 = .ok (.lconst 1, 1) := by decide +kernel
theorem zd_XTexture_softAt_90 : decode zb_XTexture_softAt 90 = .ok (.ladd, 1) := by decide +kernel
theorem zd_XTexture_softAt_91 : decode zb_XTexture_softAt 91 = .ok (.invokevirtual 45, 3) := by decide +kernel
theorem zd_XTexture_softAt_94 : decode zb_XTexture_softAt 94 = .ok (.istore 16, 2) := by decide +kernel
theorem zd_XTexture_softAt_96 : decode zb_XTexture_softAt 96 = .ok (.iconst 0, 1) := by decide +kernel
theorem zd_XTexture_softAt_97 : decode zb_XTexture_softAt 97 = .ok (.istore 17, 2) := by decide +kernel
theorem zd_XTexture_softAt_99 : decode zb_XTexture_softAt 99 = .ok (.iconst 0, 1) := by decide +kernel
theorem zd_XTexture_softAt_100 : decode zb_XTexture_softAt 100 = .ok (.istore 18, 2) := by decide +kernel
theorem zd_XTexture_softAt_102 : decode zb_XTexture_softAt 102 = .ok (.iload 18, 2) := by decide +kernel
theorem zd_XTexture_softAt_104 : decode zb_XTexture_softAt 104 = .ok (.bipush 16, 2) := by decide +kernel
theorem zd_XTexture_softAt_106 : decode zb_XTexture_softAt 106 = .ok (.if_icmp .gt 97, 3) := by decide +kernel
theorem zd_XTexture_softAt_109 : decode zb_XTexture_softAt 109 = .ok (.iload 13, 2) := by decide +kernel
theorem zd_XTexture_softAt_111 : decode zb_XTexture_softAt 111 = .ok (.iload 18, 2) := by decide +kernel
theorem zd_XTexture_softAt_113 : decode zb_XTexture_softAt 113 = .ok (.ishr, 1) := by decide +kernel
theorem zd_XTexture_softAt_114 : decode zb_XTexture_softAt 114 = .ok (.sipush 255, 3) := by decide +kernel
theorem zd_XTexture_softAt_117 : decode zb_XTexture_softAt 117 = .ok (.iand, 1) := by decide +kernel
theorem zd_XTexture_softAt_118 : decode zb_XTexture_softAt 118 = .ok (.sipush 256, 3) := by decide +kernel
theorem zd_XTexture_softAt_121 : decode zb_XTexture_softAt 121 = .ok (.iload 11, 2) := by decide +kernel
theorem zd_XTexture_softAt_123 : decode zb_XTexture_softAt 123 = .ok (.isub, 1) := by decide +kernel
theorem zd_XTexture_softAt_124 : decode zb_XTexture_softAt 124 = .ok (.imul, 1) := by decide +kernel
theorem zd_XTexture_softAt_125 : decode zb_XTexture_softAt 125 = .ok (.iload 14, 2) := by decide +kernel
theorem zd_XTexture_softAt_127 : decode zb_XTexture_softAt 127 = .ok (.iload 18, 2) := by decide +kernel
theorem zd_XTexture_softAt_129 : decode zb_XTexture_softAt 129 = .ok (.ishr, 1) := by decide +kernel
theorem zd_XTexture_softAt_130 : decode zb_XTexture_softAt 130 = .ok (.sipush 255, 3) := by decide +kernel
theorem zd_XTexture_softAt_133 : decode zb_XTexture_softAt 133 = .ok (.iand, 1) := by decide +kernel
theorem zd_XTexture_softAt_134 : decode zb_XTexture_softAt 134 = .ok (.iload 11, 2) := by decide +kernel
theorem zd_XTexture_softAt_136 : decode zb_XTexture_softAt 136 = .ok (.imul, 1) := by decide +kernel
theorem zd_XTexture_softAt_137 : decode zb_XTexture_softAt 137 = .ok (.iadd, 1) := by decide +kernel
theorem zd_XTexture_softAt_138 : decode zb_XTexture_softAt 138 = .ok (.istore 19, 2) := by decide +kernel
theorem zd_XTexture_softAt_140 : decode zb_XTexture_softAt 140 = .ok (.iload 15, 2) := by decide +kernel
theorem zd_XTexture_softAt_142 : decode zb_XTexture_softAt 142 = .ok (.iload 18, 2) := by decide +kernel
theorem zd_XTexture_softAt_144 : decode zb_XTexture_softAt 144 = .ok (.ishr, 1) := by decide +kernel
theorem zd_XTexture_softAt_145 : decode zb_XTexture_softAt 145 = .ok (.sipush 255, 3) := by decide +kernel
theorem zd_XTexture_softAt_148 : decode zb_XTexture_softAt 148 = .ok (.iand, 1) := by decide +kernel
theorem zd_XTexture_softAt_149 : decode zb_XTexture_softAt 149 = .ok (.sipush 256, 3) := by decide +kernel
theorem zd_XTexture_softAt_152 : decode zb_XTexture_softAt 152 = .ok (.iload 11, 2) := by decide +kernel
theorem zd_XTexture_softAt_154 : decode zb_XTexture_softAt 154 = .ok (.isub, 1) := by decide +kernel
theorem zd_XTexture_softAt_155 : decode zb_XTexture_softAt 155 = .ok (.imul, 1) := by decide +kernel
theorem zd_XTexture_softAt_156 : decode zb_XTexture_softAt 156 = .ok (.iload 16, 2) := by decide +kernel
theorem zd_XTexture_softAt_158 : decode zb_XTexture_softAt 158 = .ok (.iload 18, 2) := by decide +kernel
theorem zd_XTexture_softAt_160 : decode zb_XTexture_softAt 160 = .ok (.ishr, 1) := by decide +kernel
theorem zd_XTexture_softAt_161 : decode zb_XTexture_softAt 161 = .ok (.sipush 255, 3) := by decide +kernel
theorem zd_XTexture_softAt_164 : decode zb_XTexture_softAt 164 = .ok (.iand, 1) := by decide +kernel
theorem zd_XTexture_softAt_165 : decode zb_XTexture_softAt 165 = .ok (.iload 11, 2) := by decide +kernel
theorem zd_XTexture_softAt_167 : decode zb_XTexture_softAt 167 = .ok (.imul, 1) := by decide +kernel
theorem zd_XTexture_softAt_168 : decode zb_XTexture_softAt 168 = .ok (.iadd, 1) := by decide +kernel
theorem zd_XTexture_softAt_169 : decode zb_XTexture_softAt 169 = .ok (.istore 20, 2) := by decide +kernel
theorem zd_XTexture_softAt_171 : decode zb_XTexture_softAt 171 = .ok (.iload 17, 2) := by decide +kernel
theorem zd_XTexture_softAt_173 : decode zb_XTexture_softAt 173 = .ok (.iload 19, 2) := by decide +kernel
theorem zd_XTexture_softAt_175 : decode zb_XTexture_softAt 175 = .ok (.sipush 256, 3) := by decide +kernel
theorem zd_XTexture_softAt_178 : decode zb_XTexture_softAt 178 = .ok (.iload 12, 2) := by decide +kernel
theorem zd_XTexture_softAt_180 : decode zb_XTexture_softAt 180 = .ok (.isub, 1) := by decide +kernel
theorem zd_XTexture_softAt_181 : decode zb_XTexture_softAt 181 = .ok (.imul, 1) := by decide +kernel
theorem zd_XTexture_softAt_182 : decode zb_XTexture_softAt 182 = .ok (.iload 20, 2) := by decide +kernel
theorem zd_XTexture_softAt_184 : decode zb_XTexture_softAt 184 = .ok (.iload 12, 2) := by decide +kernel
theorem zd_XTexture_softAt_186 : decode zb_XTexture_softAt 186 = .ok (.imul, 1) := by decide +kernel
theorem zd_XTexture_softAt_187 : decode zb_XTexture_softAt 187 = .ok (.iadd, 1) := by decide +kernel
theorem zd_XTexture_softAt_188 : decode zb_XTexture_softAt 188 = .ok (.bipush 16, 2) := by decide +kernel
theorem zd_XTexture_softAt_190 : decode zb_XTexture_softAt 190 = .ok (.ishr, 1) := by decide +kernel
theorem zd_XTexture_softAt_191 : decode zb_XTexture_softAt 191 = .ok (.iload 18, 2) := by decide +kernel
theorem zd_XTexture_softAt_193 : decode zb_XTexture_softAt 193 = .ok (.ishl, 1) := by decide +kernel
theorem zd_XTexture_softAt_194 : decode zb_XTexture_softAt 194 = .ok (.ior, 1) := by decide +kernel
theorem zd_XTexture_softAt_195 : decode zb_XTexture_softAt 195 = .ok (.istore 17, 2) := by decide +kernel
theorem zd_XTexture_softAt_197 : decode zb_XTexture_softAt 197 = .ok (.iinc 18 8, 3) := by decide +kernel
theorem zd_XTexture_softAt_200 : decode zb_XTexture_softAt 200 = .ok (.goto (-98), 3) := by decide +kernel
theorem zd_XTexture_softAt_203 : decode zb_XTexture_softAt 203 = .ok (.iload 17, 2) := by decide +kernel
theorem zd_XTexture_softAt_205 : decode zb_XTexture_softAt 205 = .ok (.ireturn, 1) := by decide +kernel
theorem zw_848 : (Jvm.Cond.methodLink "OrreryBox$Texture" (45 : Nat) ({ cls := "OrreryBox$Texture", name := "texel", desc := "(IIJJ)I" } : Jvm.MethodName)) ∈ gw := gw_t 848 (by decide +kernel) rfl
theorem zw_850 : (Jvm.Cond.instanceMethod ({ cls := "OrreryBox$Texture", name := "texel", desc := "(IIJJ)I" } : Jvm.MethodName)) ∈ gw := gw_t 850 (by decide +kernel) rfl
theorem zv_22 : (Jvm.Cond.selects "OrreryBox$Texture" (⟨"OrreryBox$Texture", "texel", "(IIJJ)I"⟩ : MethodName) ⟨"OrreryBox$Texture", "texel", "(IIJJ)I"⟩) ∈ gw := gw_s 22 (by decide +kernel) rfl
theorem zs_XTexture_45 : zwV "OrreryBox$Texture" 45 "OrreryBox$Texture" zy_XTexture_texel zb_XTexture_texel 7 (some .int) := ⟨zw_848, zw_850, zv_22, zw_6, zc_XTexture_texel⟩
def L_XTexture_softAt_102 (sh : zSh) (fuel : Nat) (v11 : Int32) (v12 : Int32) (v13 : Int32) (v14 : Int32) (v15 : Int32) (v16 : Int32) (v17 : Int32) (v18 : Int32) (mm : zMem) : Option (Int32 × Int32 × Int32 × Int32 × Int32 × Int32 × Int32 × Int32 × zMem) := match fuel with
  | 0 => none
  | fu + 1 => (if 16 < v18 then some (v11, v12, v13, v14, v15, v16, v17, v18, mm) else zoL ((((v13 >>> (v18 &&& 31)) &&& 255) * (256 - v11)) + (((v14 >>> (v18 &&& 31)) &&& 255) * v11)) (fun x18 => zoL ((((v15 >>> (v18 &&& 31)) &&& 255) * (256 - v11)) + (((v16 >>> (v18 &&& 31)) &&& 255) * v11)) (fun x19 => zoL (v17 ||| ((((x18 * (256 - v12)) + (x19 * v12)) >>> (16 &&& 31)) <<< (v18 &&& 31))) (fun x20 => L_XTexture_softAt_102 sh fu v11 v12 v13 v14 v15 v16 x20 (v18 + 8) mm))))
set_option maxHeartbeats 4000000 in
set_option maxRecDepth 100000 in
theorem lp_XTexture_softAt_102 {p : Program} {l : Launch} {e : Env} {s : State} {m : MethodId} {args : Array Value} {below : List Frame} {meth : Method} {c : Code} {D : va_G} {tA : Nat → ClassId} {b n : Nat} {post : Option Value → zV → Nat → Prop} {sh : zSh} (F : zF p s m args meth c zb_XTexture_softAt 21 "OrreryBox$Texture" D tA b) : ∀ (fuel : Nat) (v11 : Int32) (v12 : Int32) (v13 : Int32) (v14 : Int32) (v15 : Int32) (v16 : Int32) (v17 : Int32) (v18 : Int32) (mm : zMem) (r : Int32 × Int32 × Int32 × Int32 × Int32 × Int32 × Int32 × Int32 × zMem), L_XTexture_softAt_102 sh fuel v11 v12 v13 v14 v15 v16 v17 v18 mm = some r → (Z p l e { frames := 2, cells := 0, slots := 0, locals := 49 } s m args below meth c D b 21 (MQ below (zQ D b post) args s 0 0 (fun q => b ≤ q)) (zW tA b sh r.2.2.2.2.2.2.2.2) n 0 0 203 [(11, .int (r.1)), (12, .int (r.2.1)), (13, .int (r.2.2.1)), (14, .int (r.2.2.2.1)), (15, .int (r.2.2.2.2.1)), (16, .int (r.2.2.2.2.2.1)), (17, .int (r.2.2.2.2.2.2.1)), (18, .int (r.2.2.2.2.2.2.2.1))] []) → Z p l e { frames := 2, cells := 0, slots := 0, locals := 49 } s m args below meth c D b 21 (MQ below (zQ D b post) args s 0 0 (fun q => b ≤ q)) (zW tA b sh mm) n 0 0 102 [(11, .int v11), (12, .int v12), (13, .int v13), (14, .int v14), (15, .int v15), (16, .int v16), (17, .int v17), (18, .int v18)] [] := by
  intro fuel
  induction fuel with
  | zero =>
    intro v11 v12 v13 v14 v15 v16 v17 v18 mm r h
    cases h
  | succ fu ih =>
    intro v11 v12 v13 v14 v15 v16 v17 v18 mm r h hx0
    rw [L_XTexture_softAt_102] at h
    refine zr_iload F zd_XTexture_softAt_102 rfl ?_
    refine zr_bipushv (v := 16) F zd_XTexture_softAt_104 (by decide) ?_
    refine zr_icmp_gt F 203 zd_XTexture_softAt_106 (by decide) (fun hb17 => ?_) (fun hb17 => ?_)
    ·
      replace h := (if_pos hb17).symm.trans h
      obtain rfl := Option.some.inj h
      refine zr_loc (L' := [(11, .int v11), (12, .int v12), (13, .int v13), (14, .int v14), (15, .int v15), (16, .int v16), (17, .int v17), (18, .int v18)]) ⟨rfl, rfl, rfl, rfl, rfl, rfl, rfl, rfl, trivial⟩ ?_
      exact hx0 
    ·
      replace h := (if_neg hb17).symm.trans h
      refine zr_iload F zd_XTexture_softAt_109 rfl ?_
      refine zr_iload F zd_XTexture_softAt_111 rfl ?_
      refine zr_pcn 113 rfl ?_
      refine zr_ishr F zd_XTexture_softAt_113 ?_
      refine zr_sipushv (v := 255) F zd_XTexture_softAt_114 (by decide) ?_
      refine zr_iand F zd_XTexture_softAt_117 ?_
      refine zr_sipushv (v := 256) F zd_XTexture_softAt_118 (by decide) ?_
      refine zr_iload F zd_XTexture_softAt_121 rfl ?_
      refine zr_isub F zd_XTexture_softAt_123 ?_
      refine zr_imul F zd_XTexture_softAt_124 ?_
      refine zr_iload F zd_XTexture_softAt_125 rfl ?_
      refine zr_pcn 127 rfl ?_
      refine zr_iload F zd_XTexture_softAt_127 rfl ?_
      refine zr_ishr F zd_XTexture_softAt_129 ?_
      refine zr_sipushv (v := 255) F zd_XTexture_softAt_130 (by decide) ?_
      refine zr_iand F zd_XTexture_softAt_133 ?_
      refine zr_iload F zd_XTexture_softAt_134 rfl ?_
      refine zr_imul F zd_XTexture_softAt_136 ?_
      refine zr_iadd F zd_XTexture_softAt_137 ?_
      obtain ⟨x18, ex18, h⟩ := zoL_s h
      rw [← ex18]
      refine zr_istore F zd_XTexture_softAt_138 (by decide) ?_
      refine zr_pcn 140 rfl ?_
      refine zr_iload F zd_XTexture_softAt_140 rfl ?_
      refine zr_iload F zd_XTexture_softAt_142 rfl ?_
      refine zr_ishr F zd_XTexture_softAt_144 ?_
      refine zr_sipushv (v := 255) F zd_XTexture_softAt_145 (by decide) ?_
      refine zr_iand F zd_XTexture_softAt_148 ?_
      refine zr_sipushv (v := 256) F zd_XTexture_softAt_149 (by decide) ?_
      refine zr_iload F zd_XTexture_softAt_152 rfl ?_
      refine zr_isub F zd_XTexture_softAt_154 ?_
      refine zr_pcn 155 rfl ?_
      refine zr_imul F zd_XTexture_softAt_155 ?_
      refine zr_iload F zd_XTexture_softAt_156 rfl ?_
      refine zr_iload F zd_XTexture_softAt_158 rfl ?_
      refine zr_ishr F zd_XTexture_softAt_160 ?_
      refine zr_sipushv (v := 255) F zd_XTexture_softAt_161 (by decide) ?_
      refine zr_iand F zd_XTexture_softAt_164 ?_
      refine zr_iload F zd_XTexture_softAt_165 rfl ?_
      refine zr_imul F zd_XTexture_softAt_167 ?_
      refine zr_pcn 168 rfl ?_
      refine zr_iadd F zd_XTexture_softAt_168 ?_
      obtain ⟨x19, ex19, h⟩ := zoL_s h
      rw [← ex19]
      refine zr_istore F zd_XTexture_softAt_169 (by decide) ?_
      refine zr_iload F zd_XTexture_softAt_171 rfl ?_
      refine zr_iload F zd_XTexture_softAt_173 rfl ?_
      refine zr_sipushv (v := 256) F zd_XTexture_softAt_175 (by decide) ?_
      refine zr_iload F zd_XTexture_softAt_178 rfl ?_
      refine zr_isub F zd_XTexture_softAt_180 ?_
      refine zr_imul F zd_XTexture_softAt_181 ?_
      refine zr_pcn 182 rfl ?_
      refine zr_iload F zd_XTexture_softAt_182 rfl ?_
      refine zr_iload F zd_XTexture_softAt_184 rfl ?_
      refine zr_imul F zd_XTexture_softAt_186 ?_
      refine zr_iadd F zd_XTexture_softAt_187 ?_
      refine zr_bipushv (v := 16) F zd_XTexture_softAt_188 (by decide) ?_
      refine zr_ishr F zd_XTexture_softAt_190 ?_
      refine zr_iload F zd_XTexture_softAt_191 rfl ?_
      refine zr_ishl F zd_XTexture_softAt_193 ?_
      refine zr_pcn 194 rfl ?_
      refine zr_ior F zd_XTexture_softAt_194 ?_
      obtain ⟨x20, ex20, h⟩ := zoL_s h
      rw [← ex20]
      refine zr_istore F zd_XTexture_softAt_195 (by decide) ?_
      refine zr_loc (L' := [(11, .int v11), (12, .int v12), (13, .int v13), (14, .int v14), (15, .int v15), (16, .int v16), (17, .int x20), (18, .int v18)]) ⟨rfl, rfl, rfl, rfl, rfl, rfl, rfl, rfl, trivial⟩ ?_
      refine zr_iinc (v := (v18 + 8)) F zd_XTexture_softAt_197 rfl rfl (by decide) ?_
      refine zr_goto F 102 zd_XTexture_softAt_200 (by decide) ?_
      refine zr_loc (L' := [(11, .int v11), (12, .int v12), (13, .int v13), (14, .int v14), (15, .int v15), (16, .int v16), (17, .int x20), (18, .int (v18 + 8))]) ⟨rfl, rfl, rfl, rfl, rfl, rfl, rfl, rfl, trivial⟩ ?_
      exact ih _ _ _ _ _ _ _ _ _ _ h hx0
def F_XTexture_softAt (sh : zSh) (mm : zMem) (o : Nat) (x0_ : Int32) (x1_ : Int32) (x2_ : Int64) (x3_ : Int64) : Option (Int32 × zMem) := zoL (x2_ >>> ((16 : Int32).toInt64 &&& 63)) (fun x1 => zoL (x3_ >>> ((16 : Int32).toInt64 &&& 63)) (fun x2 => zoL ((((x2_ - (x1 <<< ((16 : Int32).toInt64 &&& 63))) : Int64).toInt32) >>> (8 &&& 31)) (fun x3 => zoL ((((x3_ - (x2 <<< ((16 : Int32).toInt64 &&& 63))) : Int64).toInt32) >>> (8 &&& 31)) (fun x4 => zoS (sh o) 10 (fun le6 => Option.bind (F_XTexture_texel sh mm o x0_ x1_ x1 x2) (fun p7 => zoS (sh o) 10 (fun le9 => Option.bind (F_XTexture_texel sh (p7.2) o x0_ x1_ (x1 + 1) x2) (fun p10 => zoS (sh o) 10 (fun le12 => Option.bind (F_XTexture_texel sh (p10.2) o x0_ x1_ x1 (x2 + 1)) (fun p13 => zoS (sh o) 10 (fun le15 => Option.bind (F_XTexture_texel sh (p13.2) o x0_ x1_ (x1 + 1) (x2 + 1)) (fun p16 => Option.bind (L_XTexture_softAt_102 sh zfuel x3 x4 (p7.1) (p10.1) (p13.1) (p16.1) 0 0 (p16.2)) (fun q21 => some (q21.2.2.2.2.2.2.1, q21.2.2.2.2.2.2.2.2))))))))))))))
set_option maxHeartbeats 4000000 in
set_option maxRecDepth 100000 in
theorem k_XTexture_softAt (l : Launch) (D : va_G) (tA : Nat → ClassId) (b : Nat) (sh : zSh) (n : Nat) {mm : zMem} {o : Nat} {x0_ : Int32} {x1_ : Int32} {x2_ : Int64} {x3_ : Int64} {r : (Int32 × zMem)} (h : F_XTexture_softAt sh mm o x0_ x1_ x2_ x3_ = some r) : zM l D tA b zy_XTexture_softAt zb_XTexture_softAt 21 (some .int) 2 49 0 0 [.ref (b + o), .int x0_, .int x1_, .long x2_, .long x3_] (zW tA b sh mm) n (zE (some (.int (r.1))) (zW tA b sh r.2) n) := by
  unfold F_XTexture_softAt at h
  refine zM_of (own := "OrreryBox$Texture") (plainFor_of_name (by decide)) rfl (Nat.le_of_ble_eq_true rfl) (fun p e s m below meth c F hr hin hH => ?_)
  refine zr_lload_n F zd_XTexture_softAt_0 rfl ?_
  refine zr_bipushv (v := 16) F zd_XTexture_softAt_1 (by decide) ?_
  refine zr_lshr F zd_XTexture_softAt_3 ?_
  obtain ⟨x1, ex1, h⟩ := zoL_s h
  rw [← ex1]
  refine zr_lstore F zd_XTexture_softAt_4 (by decide) ?_
  refine zr_lload F zd_XTexture_softAt_6 rfl ?_
  refine zr_bipushv (v := 16) F zd_XTexture_softAt_8 (by decide) ?_
  refine zr_lshr F zd_XTexture_softAt_10 ?_
  refine zr_pcn 11 rfl ?_
  obtain ⟨x2, ex2, h⟩ := zoL_s h
  rw [← ex2]
  refine zr_lstore F zd_XTexture_softAt_11 (by decide) ?_
  refine zr_lload_n F zd_XTexture_softAt_13 rfl ?_
  refine zr_lload F zd_XTexture_softAt_14 rfl ?_
  refine zr_bipushv (v := 16) F zd_XTexture_softAt_16 (by decide) ?_
  refine zr_lshl F zd_XTexture_softAt_18 ?_
  refine zr_lsub F zd_XTexture_softAt_19 ?_
  refine zr_l2i F zd_XTexture_softAt_20 ?_
  refine zr_bipushv (v := 8) F zd_XTexture_softAt_21 (by decide) ?_
  refine zr_pcn 23 rfl ?_
  refine zr_ishr F zd_XTexture_softAt_23 ?_
  obtain ⟨x3, ex3, h⟩ := zoL_s h
  rw [← ex3]
  refine zr_istore F zd_XTexture_softAt_24 (by decide) ?_
  refine zr_loc (L' := [(0, .ref (b + o)), (1, .int x0_), (2, .int x1_), (5, .long x3_), (7, .long x1), (9, .long x2), (11, .int x3)]) ⟨rfl, rfl, rfl, rfl, rfl, rfl, rfl, trivial⟩ ?_
  refine zr_lload F zd_XTexture_softAt_26 rfl ?_
  refine zr_lload F zd_XTexture_softAt_28 rfl ?_
  refine zr_bipushv (v := 16) F zd_XTexture_softAt_30 (by decide) ?_
  refine zr_lshl F zd_XTexture_softAt_32 ?_
  refine zr_lsub F zd_XTexture_softAt_33 ?_
  refine zr_l2i F zd_XTexture_softAt_34 ?_
  refine zr_pcn 35 rfl ?_
  refine zr_bipushv (v := 8) F zd_XTexture_softAt_35 (by decide) ?_
  refine zr_ishr F zd_XTexture_softAt_37 ?_
  obtain ⟨x4, ex4, h⟩ := zoL_s h
  rw [← ex4]
  refine zr_istore F zd_XTexture_softAt_38 (by decide) ?_
  refine zr_aload_n F zd_XTexture_softAt_40 rfl ?_
  refine zr_iload_n F zd_XTexture_softAt_41 rfl ?_
  refine zr_iload_n F zd_XTexture_softAt_42 rfl ?_
  refine zr_lload F zd_XTexture_softAt_43 rfl ?_
  refine zr_lload F zd_XTexture_softAt_45 rfl ?_
  refine zr_pcn 47 rfl ?_
  obtain ⟨le6, hs5, h⟩ := zoS_s h
  obtain ⟨p7, ep7, h⟩ := zoB_s h
  refine zr_callV1 F (k_XTexture_texel l D tA b sh _ ep7) zd_XTexture_softAt_47 (zW_o hs5 (by decide)) rfl zs_XTexture_45 rfl zq_XTexture_texel rfl rfl ⟨(Nat.le_of_ble_eq_true rfl), (Nat.le_of_ble_eq_true rfl)⟩ (Nat.le_of_ble_eq_true rfl) ⟨(Nat.le_of_ble_eq_true rfl), (Nat.le_of_ble_eq_true rfl)⟩ ?_
  refine zr_istore F zd_XTexture_softAt_50 (by decide) ?_
  refine zr_aload_n F zd_XTexture_softAt_52 rfl ?_
  refine zr_iload_n F zd_XTexture_softAt_53 rfl ?_
  refine zr_iload_n F zd_XTexture_softAt_54 rfl ?_
  refine zr_lload F zd_XTexture_softAt_55 rfl ?_
  refine zr_lconstv (v := 1) F zd_XTexture_softAt_57 (by decide) ?_
  refine zr_ladd F zd_XTexture_softAt_58 ?_
  refine zr_pcn 59 rfl ?_
  refine zr_lload F zd_XTexture_softAt_59 rfl ?_
  obtain ⟨le9, hs8, h⟩ := zoS_s h
  obtain ⟨p10, ep10, h⟩ := zoB_s h
  refine zr_callV1 F (k_XTexture_texel l D tA b sh _ ep10) zd_XTexture_softAt_61 (zW_o hs8 (by decide)) rfl zs_XTexture_45 rfl zq_XTexture_texel rfl rfl ⟨(Nat.le_of_ble_eq_true rfl), (Nat.le_of_ble_eq_true rfl)⟩ (Nat.le_of_ble_eq_true rfl) ⟨(Nat.le_of_ble_eq_true rfl), (Nat.le_of_ble_eq_true rfl)⟩ ?_
  refine zr_istore F zd_XTexture_softAt_64 (by decide) ?_
  refine zr_loc (L' := [(0, .ref (b + o)), (1, .int x0_), (2, .int x1_), (7, .long x1), (9, .long x2), (11, .int x3), (12, .int x4), (13, .int (p7.1)), (14, .int (p10.1))]) ⟨rfl, rfl, rfl, rfl, rfl, rfl, rfl, rfl, rfl, trivial⟩ ?_
  refine zr_aload_n F zd_XTexture_softAt_66 rfl ?_
  refine zr_iload_n F zd_XTexture_softAt_67 rfl ?_
  refine zr_iload_n F zd_XTexture_softAt_68 rfl ?_
  refine zr_lload F zd_XTexture_softAt_69 rfl ?_
  refine zr_lload F zd_XTexture_softAt_71 rfl ?_
  refine zr_pcn 73 rfl ?_
  refine zr_lconstv (v := 1) F zd_XTexture_softAt_73 (by decide) ?_
  refine zr_ladd F zd_XTexture_softAt_74 ?_
  obtain ⟨le12, hs11, h⟩ := zoS_s h
  obtain ⟨p13, ep13, h⟩ := zoB_s h
  refine zr_callV1 F (k_XTexture_texel l D tA b sh _ ep13) zd_XTexture_softAt_75 (zW_o hs11 (by decide)) rfl zs_XTexture_45 rfl zq_XTexture_texel rfl rfl ⟨(Nat.le_of_ble_eq_true rfl), (Nat.le_of_ble_eq_true rfl)⟩ (Nat.le_of_ble_eq_true rfl) ⟨(Nat.le_of_ble_eq_true rfl), (Nat.le_of_ble_eq_true rfl)⟩ ?_
  refine zr_istore F zd_XTexture_softAt_78 (by decide) ?_
  refine zr_aload_n F zd_XTexture_softAt_80 rfl ?_
  refine zr_iload_n F zd_XTexture_softAt_81 rfl ?_
  refine zr_iload_n F zd_XTexture_softAt_82 rfl ?_
  refine zr_lload F zd_XTexture_softAt_83 rfl ?_
  refine zr_pcn 85 rfl ?_
  refine zr_lconstv (v := 1) F zd_XTexture_softAt_85 (by decide) ?_
  refine zr_ladd F zd_XTexture_softAt_86 ?_
  refine zr_lload F zd_XTexture_softAt_87 rfl ?_
  refine zr_lconstv (v := 1) F zd_XTexture_softAt_89 (by decide) ?_
  refine zr_ladd F zd_XTexture_softAt_90 ?_
  obtain ⟨le15, hs14, h⟩ := zoS_s h
  obtain ⟨p16, ep16, h⟩ := zoB_s h
  refine zr_callV1 F (k_XTexture_texel l D tA b sh _ ep16) zd_XTexture_softAt_91 (zW_o hs14 (by decide)) rfl zs_XTexture_45 rfl zq_XTexture_texel rfl rfl ⟨(Nat.le_of_ble_eq_true rfl), (Nat.le_of_ble_eq_true rfl)⟩ (Nat.le_of_ble_eq_true rfl) ⟨(Nat.le_of_ble_eq_true rfl), (Nat.le_of_ble_eq_true rfl)⟩ ?_
  refine zr_istore F zd_XTexture_softAt_94 (by decide) ?_
  refine zr_iconstv (v := 0) F zd_XTexture_softAt_96 (by decide) ?_
  refine zr_pcn 97 rfl ?_
  refine zr_istore F zd_XTexture_softAt_97 (by decide) ?_
  refine zr_loc (L' := [(11, .int x3), (12, .int x4), (13, .int (p7.1)), (14, .int (p10.1)), (15, .int (p13.1)), (16, .int (p16.1)), (17, .int 0)]) ⟨rfl, rfl, rfl, rfl, rfl, rfl, rfl, trivial⟩ ?_
  refine zr_iconstv (v := 0) F zd_XTexture_softAt_99 (by decide) ?_
  refine zr_istore F zd_XTexture_softAt_100 (by decide) ?_
  obtain ⟨q21, eq21, h⟩ := zoB_s h
  refine zr_loc (L' := [(11, .int x3), (12, .int x4), (13, .int (p7.1)), (14, .int (p10.1)), (15, .int (p13.1)), (16, .int (p16.1)), (17, .int 0), (18, .int 0)]) ⟨rfl, rfl, rfl, rfl, rfl, rfl, rfl, rfl, trivial⟩ ?_
  refine lp_XTexture_softAt_102 F _ _ _ _ _ _ _ _ _ _ _ eq21 ?_
  ·
    refine zr_iload F zd_XTexture_softAt_203 rfl ?_
    obtain rfl := Option.some.inj h
    exact zr_iret F hr zd_XTexture_softAt_205 (Nat.le_of_ble_eq_true rfl) (Nat.le_of_ble_eq_true rfl) ⟨rfl, rfl, rfl⟩
