abbrev zb_MScene_follow : ByteArray := prog_18_method_8_code
def zy_MScene_follow : MethodName := ⟨"OrreryBoxModel$Scene", "follow", "(II)V"⟩
theorem zc_MScene_follow : Cond.code zy_MScene_follow zb_MScene_follow 7 none ∈ gw := gw_t 1938 (by decide +kernel) rfl
theorem zq_MScene_follow : zy_MScene_follow.cls ≠ "java/lang/invoke/MethodHandle" ∧ zy_MScene_follow.cls ≠ "java/lang/invoke/VarHandle" ∧ (parseMethodDescriptor zy_MScene_follow.desc).map (fun d => d.parameters.length) = some 2 := by decide +kernel
theorem zd_MScene_follow_0 : decode zb_MScene_follow 0 = .ok (.aload_n 0, 1) := by decide +kernel
theorem zd_MScene_follow_1 : decode zb_MScene_follow 1 = .ok (.getfield 80, 3) := by decide +kernel
theorem zd_MScene_follow_4 : decode zb_MScene_follow 4 = .ok (.iload_n 1, 1) := by decide +kernel
theorem zd_MScene_follow_5 : decode zb_MScene_follow 5 = .ok (.iaload, 1) := by decide +kernel
theorem zd_MScene_follow_6 : decode zb_MScene_follow 6 = .ok (.istore_n 3, 1) := by decide +kernel
theorem zd_MScene_follow_7 : decode zb_MScene_follow 7 = .ok (.iconst 0, 1) := by decide +kernel
theorem zd_MScene_follow_8 : decode zb_MScene_follow 8 = .ok (.istore 4, 2) := by decide +kernel
theorem zd_MScene_follow_10 : decode zb_MScene_follow 10 = .ok (.iload 4, 2) := by decide +kernel
theorem zd_MScene_follow_12 : decode zb_MScene_follow 12 = .ok (.iload_n 3, 1) := by decide +kernel
theorem zd_MScene_follow_13 : decode zb_MScene_follow 13 = .ok (.if_icmp .ge 25, 3) := by decide +kernel
theorem zd_MScene_follow_16 : decode zb_MScene_follow 16 = .ok (.aload_n 0, 1) := by decide +kernel
theorem zd_MScene_follow_17 : decode zb_MScene_follow 17 = .ok (.getfield 83, 3) := by decide +kernel
theorem zd_MScene_follow_20 : decode zb_MScene_follow 20 = .ok (.bipush 32, 2) := by decide +kernel
theorem zd_MScene_follow_22 : decode zb_MScene_follow 22 = .ok (.iload_n 1, 1) := by decide +kernel
theorem zd_MScene_follow_23 : decode zb_MScene_follow 23 = .ok (.imul, 1) := by decide +kernel
theorem zd_MScene_follow_24 : decode zb_MScene_follow 24 = .ok (.iload 4, 2) := by decide +kernel
theorem zd_MScene_follow_26 : decode zb_MScene_follow 26 = .ok (.iadd, 1) := by decide +kernel
theorem zd_MScene_follow_27 : decode zb_MScene_follow 27 = .ok (.iaload, 1) := by decide +kernel
theorem zd_MScene_follow_28 : decode zb_MScene_follow 28 = .ok (.iload_n 2, 1) := by decide +kernel
theorem zd_MScene_follow_29 : decode zb_MScene_follow 29 = .ok (.if_icmp .gt 9, 3) := by decide +kernel
theorem zd_MScene_follow_32 : decode zb_MScene_follow 32 = .ok (.iinc 4 1, 3) := by decide +kernel
theorem zd_MScene_follow_35 : decode zb_MScene_follow 35 = .ok (.goto (-25), 3) := by decide +kernel
theorem zd_MScene_follow_38 : decode zb_MScene_follow 38 = .ok (.aload_n 0, 1) := by decide +kernel
theorem zd_MScene_follow_39 : decode zb_MScene_follow 39 = .ok (.aload_n 0, 1) := by decide +kernel
theorem zd_MScene_follow_40 : decode zb_MScene_follow 40 = .ok (.getfield 74, 3) := by decide +kernel
theorem zd_MScene_follow_43 : decode zb_MScene_follow 43 = .ok (.iload_n 1, 1) := by decide +kernel
theorem zd_MScene_follow_44 : decode zb_MScene_follow 44 = .ok (.iaload, 1) := by decide +kernel
theorem zd_MScene_follow_45 : decode zb_MScene_follow 45 = .ok (.invokevirtual 129, 3) := by decide +kernel
theorem zd_MScene_follow_48 : decode zb_MScene_follow 48 = .ok (.astore 5, 2) := by decide +kernel
theorem zd_MScene_follow_50 : decode zb_MScene_follow 50 = .ok (.iconst 0, 1) := by decide +kernel
theorem zd_MScene_follow_51 : decode zb_MScene_follow 51 = .ok (.istore 6, 2) := by decide +kernel
theorem zd_MScene_follow_53 : decode zb_MScene_follow 53 = .ok (.iload 6, 2) := by decide +kernel
theorem zd_MScene_follow_55 : decode zb_MScene_follow 55 = .ok (.iconst 3, 1) := by decide +kernel
theorem zd_MScene_follow_56 : decode zb_MScene_follow 56 = .ok (.if_icmp .ge 80, 3) := by decide +kernel
theorem zd_MScene_follow_59 : decode zb_MScene_follow 59 = .ok (.aload 5, 2) := by decide +kernel
theorem zd_MScene_follow_61 : decode zb_MScene_follow 61 = .ok (.iconst 3, 1) := by decide +kernel
theorem zd_MScene_follow_62 : decode zb_MScene_follow 62 = .ok (.aload_n 0, 1) := by decide +kernel
theorem zd_MScene_follow_63 : decode zb_MScene_follow 63 = .ok (.getfield 71, 3) := by decide +kernel
theorem zd_MScene_follow_66 : decode zb_MScene_follow 66 = .ok (.iload_n 1, 1) := by decide +kernel
theorem zd_MScene_follow_67 : decode zb_MScene_follow 67 = .ok (.iaload, 1) := by decide +kernel
theorem zd_MScene_follow_68 : decode zb_MScene_follow 68 = .ok (.imul, 1) := by decide +kernel
theorem zd_MScene_follow_69 : decode zb_MScene_follow 69 = .ok (.iload 6, 2) := by decide +kernel
theorem zd_MScene_follow_71 : decode zb_MScene_follow 71 = .ok (.iadd, 1) := by decide +kernel
theorem zd_MScene_follow_72 : decode zb_MScene_follow 72 = .ok (.iload 4, 2) := by decide +kernel
theorem zd_MScene_follow_74 : decode zb_MScene_follow 74 = .ok (.ifCond .ne 18, 3) := by decide +kernel
theorem zd_MScene_follow_77 : decode zb_MScene_follow 77 = .ok (.aload_n 0, 1) := by decide +kernel
theorem zd_MScene_follow_78 : decode zb_MScene_follow 78 = .ok (.getfield 86, 3) := by decide +kernel
theorem zd_MScene_follow_81 : decode zb_MScene_follow 81 = .ok (.bipush 96, 2) := by decide +kernel
theorem zd_MScene_follow_83 : decode zb_MScene_follow 83 = .ok (.iload_n 1, 1) := by decide +kernel
theorem zd_MScene_follow_84 : decode zb_MScene_follow 84 = .ok (.imul, 1) := by decide +kernel
theorem zd_MScene_follow_85 : decode zb_MScene_follow 85 = .ok (.iload 6, 2) := by decide +kernel
theorem zd_MScene_follow_87 : decode zb_MScene_follow 87 = .ok (.iadd, 1) := by decide +kernel
theorem zd_MScene_follow_88 : decode zb_MScene_follow 88 = .ok (.iaload, 1) := by decide +kernel
theorem zd_MScene_follow_89 : decode zb_MScene_follow 89 = .ok (.goto 40, 3) := by decide +kernel
theorem zd_MScene_follow_92 : decode zb_MScene_follow 92 = .ok (.iload 4, 2) := by decide +kernel
theorem zd_MScene_follow_94 : decode zb_MScene_follow 94 = .ok (.iload_n 3, 1) := by decide +kernel
theorem zd_MScene_follow_95 : decode zb_MScene_follow 95 = .ok (.if_icmp .ne 24, 3) := by decide +kernel
theorem zd_MScene_follow_98 : decode zb_MScene_follow 98 = .ok (.aload_n 0, 1) := by decide +kernel
theorem zd_MScene_follow_99 : decode zb_MScene_follow 99 = .ok (.getfield 86, 3) := by decide +kernel
theorem zd_MScene_follow_102 : decode zb_MScene_follow 102 = .ok (.bipush 96, 2) := by decide +kernel
theorem zd_MScene_follow_104 : decode zb_MScene_follow 104 = .ok (.iload_n 1, 1) := by decide +kernel
theorem zd_MScene_follow_105 : decode zb_MScene_follow 105 = .ok (.imul, 1) := by decide +kernel
theorem zd_MScene_follow_106 : decode zb_MScene_follow 106 = .ok (.iconst 3, 1) := by decide +kernel
theorem zd_MScene_follow_107 : decode zb_MScene_follow 107 = .ok (.iload_n 3, 1) := by decide +kernel
theorem zd_MScene_follow_108 : decode zb_MScene_follow 108 = .ok (.iconst 1, 1) := by decide +kernel
theorem zd_MScene_follow_109 : decode zb_MScene_follow 109 = .ok (.isub, 1) := by decide +kernel
theorem zd_MScene_follow_110 : decode zb_MScene_follow 110 = .ok (.imul, 1) := by decide +kernel
theorem zd_MScene_follow_111 : decode zb_MScene_follow 111 = .ok (.iadd, 1) := by decide +kernel
theorem zd_MScene_follow_112 : decode zb_MScene_follow 112 = .ok (.iload 6, 2) := by decide +kernel
theorem zd_MScene_follow_114 : decode zb_MScene_follow 114 = .ok (.iadd, 1) := by decide +kernel
theorem zd_MScene_follow_115 : decode zb_MScene_follow 115 = .ok (.iaload, 1) := by decide +kernel
theorem zd_MScene_follow_116 : decode zb_MScene_follow 116 = .ok (.goto 13, 3) := by decide +kernel
theorem zd_MScene_follow_119 : decode zb_MScene_follow 119 = .ok (.aload_n 0, 1) := by decide +kernel
theorem zd_MScene_follow_120 : decode zb_MScene_follow 120 = .ok (.iload_n 1, 1) := by decide +kernel
theorem zd_MScene_follow_121 : decode zb_MScene_follow 121 = .ok (.iload 4, 2) := by decide +kernel
theorem zd_MScene_follow_123 : decode zb_MScene_follow 123 = .ok (.iload 6, 2) := by decide +kernel
theorem zd_MScene_follow_125 : decode zb_MScene_follow 125 = .ok (.iload_n 2, 1) := by decide +kernel
theorem zd_MScene_follow_126 : decode zb_MScene_follow 126 = .ok (.invokevirtual 133, 3) := by decide +kernel
theorem zd_MScene_follow_129 : decode zb_MScene_follow 129 = .ok (.iastore, 1) := by decide +kernel
theorem zd_MScene_follow_130 : decode zb_MScene_follow 130 = .ok (.iinc 6 1, 3) := by decide +kernel
theorem zd_MScene_follow_133 : decode zb_MScene_follow 133 = .ok (.goto (-80), 3) := by decide +kernel
theorem zd_MScene_follow_136 : decode zb_MScene_follow 136 = .ok (.return_, 1) := by decide +kernel
def L_MScene_follow_10 (sh : zSh) (fuel : Nat) (v0 : Nat) (v1 : Int32) (v2 : Int32) (v3 : Int32) (v4 : Int32) (mm : zMem) : Option (Nat × Int32 × Int32 × Int32 × Int32 × zMem) := match fuel with
  | 0 => none
  | fu + 1 => (if v3 ≤ v4 then some (v0, v1, v2, v3, v4, mm) else zoS (sh v0) 15 (fun le10 => Option.bind (mm.2.2 v0 29) (fun a11 => zoL ((32 * v1) + v4) (fun i12 => zoS (sh a11) 100 (fun le14 => if (i12 : Int32) < 0 ∨ le14 ≤ (i12 : Int32).toNatClampNeg then none else (if v2 < (mm.1 a11 (i12 : Int32).toNatClampNeg) then some (v0, v1, v2, v3, v4, mm) else L_MScene_follow_10 sh fu v0 v1 v2 v3 (v4 + 1) mm))))))
set_option maxHeartbeats 4000000 in
set_option maxRecDepth 100000 in
theorem lp_MScene_follow_10 {p : Program} {l : Launch} {e : Env} {s : State} {m : MethodId} {args : Array Value} {below : List Frame} {meth : Method} {c : Code} {D : va_G} {tA : Nat → ClassId} {b n : Nat} {post : Option Value → zV → Nat → Prop} {sh : zSh} (F : zF p s m args meth c zb_MScene_follow 7 "OrreryBoxModel$Scene" D tA b) : ∀ (fuel : Nat) (v0 : Nat) (v1 : Int32) (v2 : Int32) (v3 : Int32) (v4 : Int32) (mm : zMem) (r : Nat × Int32 × Int32 × Int32 × Int32 × zMem), L_MScene_follow_10 sh fuel v0 v1 v2 v3 v4 mm = some r → (Z p l e { frames := 3, cells := 0, slots := 0, locals := 84 } s m args below meth c D b 7 (MQ below (zQ D b post) args s 0 0 (fun q => b ≤ q)) (zW tA b sh r.2.2.2.2.2) n 0 0 38 [(0, .ref (b + (r.1))), (1, .int (r.2.1)), (2, .int (r.2.2.1)), (3, .int (r.2.2.2.1)), (4, .int (r.2.2.2.2.1))] []) → Z p l e { frames := 3, cells := 0, slots := 0, locals := 84 } s m args below meth c D b 7 (MQ below (zQ D b post) args s 0 0 (fun q => b ≤ q)) (zW tA b sh mm) n 0 0 10 [(0, .ref (b + v0)), (1, .int v1), (2, .int v2), (3, .int v3), (4, .int v4)] [] := by
  intro fuel
  induction fuel with
  | zero =>
    intro v0 v1 v2 v3 v4 mm r h
    cases h
  | succ fu ih =>
    intro v0 v1 v2 v3 v4 mm r h hx0
    rw [L_MScene_follow_10] at h
    refine zr_pcn 10 rfl ?_
    refine zr_iload F zd_MScene_follow_10 rfl ?_
    refine zr_iload_n F zd_MScene_follow_12 rfl ?_
    refine zr_icmp_ge F 38 zd_MScene_follow_13 (by decide) (fun hb8 => ?_) (fun hb8 => ?_)
    ·
      replace h := (if_pos hb8).symm.trans h
      obtain rfl := Option.some.inj h
      refine zr_loc (L' := [(0, .ref (b + v0)), (1, .int v1), (2, .int v2), (3, .int v3), (4, .int v4)]) ⟨rfl, rfl, rfl, rfl, rfl, trivial⟩ ?_
      exact hx0 
    ·
      replace h := (if_neg hb8).symm.trans h
      refine zr_aload_n F zd_MScene_follow_16 rfl ?_
      obtain ⟨le10, hs9, h⟩ := zoS_s h
      obtain ⟨a11, ea11, h⟩ := zoB_s h
      refine zr_get F 15 29 zd_MScene_follow_17 (zW_o hs9 (by decide)) rfl (by decide) zw_1400 rfl (by rfl) ?_
      refine zr_tor ea11 ?_
      refine zr_bipushv (v := 32) F zd_MScene_follow_20 (by decide) ?_
      refine zr_iload_n F zd_MScene_follow_22 rfl ?_
      refine zr_imul F zd_MScene_follow_23 ?_
      refine zr_pcn 24 rfl ?_
      refine zr_iload F zd_MScene_follow_24 rfl ?_
      refine zr_iadd F zd_MScene_follow_26 ?_
      obtain ⟨i12, ei12, h⟩ := zoL_s h
      rw [← ei12]
      obtain ⟨le14, hs13, h⟩ := zoS_s h
      obtain ⟨hi15, h⟩ := zoI_s h
      refine zr_iald F zd_MScene_follow_27 (zW_a0 hs13) hi15 ?_
      refine zr_iload_n F zd_MScene_follow_28 rfl ?_
      refine zr_icmp_gt F 38 zd_MScene_follow_29 (by decide) (fun hb16 => ?_) (fun hb16 => ?_)
      ·
        replace h := (if_pos hb16).symm.trans h
        obtain rfl := Option.some.inj h
        refine zr_loc (L' := [(0, .ref (b + v0)), (1, .int v1), (2, .int v2), (3, .int v3), (4, .int v4)]) ⟨rfl, rfl, rfl, rfl, rfl, trivial⟩ ?_
        exact hx0 
      ·
        replace h := (if_neg hb16).symm.trans h
        refine zr_iinc (v := (v4 + 1)) F zd_MScene_follow_32 rfl rfl (by decide) ?_
        refine zr_goto F 10 zd_MScene_follow_35 (by decide) ?_
        refine zr_loc (L' := [(0, .ref (b + v0)), (1, .int v1), (2, .int v2), (3, .int v3), (4, .int (v4 + 1))]) ⟨rfl, rfl, rfl, rfl, rfl, trivial⟩ ?_
        exact ih _ _ _ _ _ _ _ h hx0
theorem zw_1939 : (Jvm.Cond.methodLink "OrreryBoxModel$Scene" (129 : Nat) ({ cls := "OrreryBoxModel$Scene", name := "of", desc := "(I)[I" } : Jvm.MethodName)) ∈ gw := gw_t 1939 (by decide +kernel) rfl
theorem zs_MScene_129 : zwV "OrreryBoxModel$Scene" 129 "OrreryBoxModel$Scene" zy_MScene_of zb_MScene_of 2 (some (.array .int)) := ⟨zw_1939, zw_1940, zw_1941, zw_14, zc_MScene_of⟩
theorem zw_1943 : (Jvm.Cond.methodLink "OrreryBoxModel$Scene" (133 : Nat) ({ cls := "OrreryBoxModel$Scene", name := "between", desc := "(IIII)I" } : Jvm.MethodName)) ∈ gw := gw_t 1943 (by decide +kernel) rfl
theorem zw_1945 : (Jvm.Cond.instanceMethod ({ cls := "OrreryBoxModel$Scene", name := "between", desc := "(IIII)I" } : Jvm.MethodName)) ∈ gw := gw_t 1945 (by decide +kernel) rfl
theorem zv_90 : (Jvm.Cond.selects "OrreryBoxModel$Scene" (⟨"OrreryBoxModel$Scene", "between", "(IIII)I"⟩ : MethodName) ⟨"OrreryBoxModel$Scene", "between", "(IIII)I"⟩) ∈ gw := gw_s 90 (by decide +kernel) rfl
theorem zs_MScene_133 : zwV "OrreryBoxModel$Scene" 133 "OrreryBoxModel$Scene" zy_MScene_between zb_MScene_between 17 (some .int) := ⟨zw_1943, zw_1945, zv_90, zw_14, zc_MScene_between⟩
def L_MScene_follow_53 (sh : zSh) (fuel : Nat) (v0 : Nat) (v1 : Int32) (v2 : Int32) (v3 : Int32) (v4 : Int32) (v5 : Nat) (v6 : Int32) (mm : zMem) : Option (Nat × Int32 × Int32 × Int32 × Int32 × Nat × Int32 × zMem) := match fuel with
  | 0 => none
  | fu + 1 => (if 3 ≤ v6 then some (v0, v1, v2, v3, v4, v5, v6, mm) else zoS (sh v0) 15 (fun le30 => Option.bind (mm.2.2 v0 25) (fun a31 => zoS (sh a31) 100 (fun le33 => if (v1 : Int32) < 0 ∨ le33 ≤ (v1 : Int32).toNatClampNeg then none else (if v4 = 0 then zoS (sh v0) 15 (fun le59 => Option.bind (mm.2.2 v0 30) (fun a60 => zoL ((96 * v1) + v6) (fun i61 => zoS (sh a60) 100 (fun le63 => if (i61 : Int32) < 0 ∨ le63 ≤ (i61 : Int32).toNatClampNeg then none else zoL (mm.1 a60 (i61 : Int32).toNatClampNeg) (fun x65 => zoL ((3 * (mm.1 a31 (v1 : Int32).toNatClampNeg)) + v6) (fun i66 => zoS (sh v5) 100 (fun le68 => if (i66 : Int32) < 0 ∨ le68 ≤ (i66 : Int32).toNatClampNeg then none else zoL (mI mm v5 (i66 : Int32).toNatClampNeg x65) (fun mm70 => L_MScene_follow_53 sh fu v0 v1 v2 v3 v4 v5 (v6 + 1) mm70)))))))) else (if v4 = v3 then zoS (sh v0) 15 (fun le46 => Option.bind (mm.2.2 v0 30) (fun a47 => zoL (((96 * v1) + (3 * (v3 - 1))) + v6) (fun i48 => zoS (sh a47) 100 (fun le50 => if (i48 : Int32) < 0 ∨ le50 ≤ (i48 : Int32).toNatClampNeg then none else zoL (mm.1 a47 (i48 : Int32).toNatClampNeg) (fun x52 => zoL ((3 * (mm.1 a31 (v1 : Int32).toNatClampNeg)) + v6) (fun i53 => zoS (sh v5) 100 (fun le55 => if (i53 : Int32) < 0 ∨ le55 ≤ (i53 : Int32).toNatClampNeg then none else zoL (mI mm v5 (i53 : Int32).toNatClampNeg x52) (fun mm57 => L_MScene_follow_53 sh fu v0 v1 v2 v3 v4 v5 (v6 + 1) mm57)))))))) else zoS (sh v0) 15 (fun le38 => Option.bind (F_MScene_between sh mm v0 v1 v4 v6 v2) (fun p39 => zoL ((3 * (mm.1 a31 (v1 : Int32).toNatClampNeg)) + v6) (fun i40 => zoS (sh v5) 100 (fun le42 => if (i40 : Int32) < 0 ∨ le42 ≤ (i40 : Int32).toNatClampNeg then none else zoL (mI (p39.2) v5 (i40 : Int32).toNatClampNeg (p39.1)) (fun mm44 => L_MScene_follow_53 sh fu v0 v1 v2 v3 v4 v5 (v6 + 1) mm44)))))))))))
set_option maxHeartbeats 4000000 in
set_option maxRecDepth 100000 in
theorem lp_MScene_follow_53 {p : Program} {l : Launch} {e : Env} {s : State} {m : MethodId} {args : Array Value} {below : List Frame} {meth : Method} {c : Code} {D : va_G} {tA : Nat → ClassId} {b n : Nat} {post : Option Value → zV → Nat → Prop} {sh : zSh} (F : zF p s m args meth c zb_MScene_follow 7 "OrreryBoxModel$Scene" D tA b) : ∀ (fuel : Nat) (v0 : Nat) (v1 : Int32) (v2 : Int32) (v3 : Int32) (v4 : Int32) (v5 : Nat) (v6 : Int32) (mm : zMem) (r : Nat × Int32 × Int32 × Int32 × Int32 × Nat × Int32 × zMem), L_MScene_follow_53 sh fuel v0 v1 v2 v3 v4 v5 v6 mm = some r → (Z p l e { frames := 3, cells := 0, slots := 0, locals := 84 } s m args below meth c D b 7 (MQ below (zQ D b post) args s 0 0 (fun q => b ≤ q)) (zW tA b sh r.2.2.2.2.2.2.2) n 0 0 136 [(0, .ref (b + (r.1))), (1, .int (r.2.1)), (2, .int (r.2.2.1)), (3, .int (r.2.2.2.1)), (4, .int (r.2.2.2.2.1)), (5, .ref (b + (r.2.2.2.2.2.1))), (6, .int (r.2.2.2.2.2.2.1))] []) → Z p l e { frames := 3, cells := 0, slots := 0, locals := 84 } s m args below meth c D b 7 (MQ below (zQ D b post) args s 0 0 (fun q => b ≤ q)) (zW tA b sh mm) n 0 0 53 [(0, .ref (b + v0)), (1, .int v1), (2, .int v2), (3, .int v3), (4, .int v4), (5, .ref (b + v5)), (6, .int v6)] [] := by
  intro fuel
  induction fuel with
  | zero =>
    intro v0 v1 v2 v3 v4 v5 v6 mm r h
    cases h
  | succ fu ih =>
    intro v0 v1 v2 v3 v4 v5 v6 mm r h hx0
    rw [L_MScene_follow_53] at h
    refine zr_pcn 53 rfl ?_
    refine zr_iload F zd_MScene_follow_53 rfl ?_
    refine zr_iconstv (v := 3) F zd_MScene_follow_55 (by decide) ?_
    refine zr_icmp_ge F 136 zd_MScene_follow_56 (by decide) (fun hb28 => ?_) (fun hb28 => ?_)
    ·
      replace h := (if_pos hb28).symm.trans h
      obtain rfl := Option.some.inj h
      refine zr_loc (L' := [(0, .ref (b + v0)), (1, .int v1), (2, .int v2), (3, .int v3), (4, .int v4), (5, .ref (b + v5)), (6, .int v6)]) ⟨rfl, rfl, rfl, rfl, rfl, rfl, rfl, trivial⟩ ?_
      exact hx0 
    ·
      replace h := (if_neg hb28).symm.trans h
      refine zr_aload F zd_MScene_follow_59 rfl ?_
      refine zr_iconstv (v := 3) F zd_MScene_follow_61 (by decide) ?_
      refine zr_aload_n F zd_MScene_follow_62 rfl ?_
      obtain ⟨le30, hs29, h⟩ := zoS_s h
      obtain ⟨a31, ea31, h⟩ := zoB_s h
      refine zr_get F 15 25 zd_MScene_follow_63 (zW_o hs29 (by decide)) rfl (by decide) zw_1392 rfl (by rfl) ?_
      refine zr_tor ea31 ?_
      refine zr_iload_n F zd_MScene_follow_66 rfl ?_
      refine zr_pcn 67 rfl ?_
      obtain ⟨le33, hs32, h⟩ := zoS_s h
      obtain ⟨hi34, h⟩ := zoI_s h
      refine zr_iald F zd_MScene_follow_67 (zW_a0 hs32) hi34 ?_
      refine zr_imul F zd_MScene_follow_68 ?_
      refine zr_iload F zd_MScene_follow_69 rfl ?_
      refine zr_iadd F zd_MScene_follow_71 ?_
      refine zr_iload F zd_MScene_follow_72 rfl ?_
      refine zr_if_ne F 92 zd_MScene_follow_74 (by decide) (fun hb35 => ?_) (fun hb35 => ?_)
      ·
        replace h := (if_neg hb35).symm.trans h
        refine zr_iload F zd_MScene_follow_92 rfl ?_
        refine zr_iload_n F zd_MScene_follow_94 rfl ?_
        refine zr_pcn 95 rfl ?_
        refine zr_icmp_ne F 119 zd_MScene_follow_95 (by decide) (fun hb36 => ?_) (fun hb36 => ?_)
        ·
          replace h := (if_neg hb36).symm.trans h
          refine zr_aload_n F zd_MScene_follow_119 rfl ?_
          refine zr_iload_n F zd_MScene_follow_120 rfl ?_
          refine zr_iload F zd_MScene_follow_121 rfl ?_
          refine zr_iload F zd_MScene_follow_123 rfl ?_
          refine zr_iload_n F zd_MScene_follow_125 rfl ?_
          obtain ⟨le38, hs37, h⟩ := zoS_s h
          obtain ⟨p39, ep39, h⟩ := zoB_s h
          refine zr_callV1 F (k_MScene_between l D tA b sh _ ep39) zd_MScene_follow_126 (zW_o hs37 (by decide)) rfl zs_MScene_133 rfl zq_MScene_between rfl rfl ⟨(Nat.le_of_ble_eq_true rfl), (Nat.le_of_ble_eq_true rfl)⟩ (Nat.le_of_ble_eq_true rfl) ⟨(Nat.le_of_ble_eq_true rfl), (Nat.le_of_ble_eq_true rfl)⟩ ?_
          obtain ⟨i40, ei40, h⟩ := zoL_s h
          rw [← ei40]
          obtain ⟨le42, hs41, h⟩ := zoS_s h
          obtain ⟨hi43, h⟩ := zoI_s h
          refine zr_iast F zd_MScene_follow_129 (zW_a0 hs41) hi43 ?_
          obtain ⟨mm44, emm44, h⟩ := zoL_s h
          refine zr_norm (zW tA b sh mm44) _ (by rw [emm44]; exact zW_s0 hs41) rfl ?_
          refine zr_pcn 130 rfl ?_
          refine zr_iinc (v := (v6 + 1)) F zd_MScene_follow_130 rfl rfl (by decide) ?_
          refine zr_goto F 53 zd_MScene_follow_133 (by decide) ?_
          refine zr_loc (L' := [(0, .ref (b + v0)), (1, .int v1), (2, .int v2), (3, .int v3), (4, .int v4), (5, .ref (b + v5)), (6, .int (v6 + 1))]) ⟨rfl, rfl, rfl, rfl, rfl, rfl, rfl, trivial⟩ ?_
          exact ih _ _ _ _ _ _ _ _ _ h hx0
        ·
          replace h := (if_pos hb36).symm.trans h
          refine zr_aload_n F zd_MScene_follow_98 rfl ?_
          obtain ⟨le46, hs45, h⟩ := zoS_s h
          obtain ⟨a47, ea47, h⟩ := zoB_s h
          refine zr_get F 15 30 zd_MScene_follow_99 (zW_o hs45 (by decide)) rfl (by decide) zw_1402 rfl (by rfl) ?_
          refine zr_tor ea47 ?_
          refine zr_bipushv (v := 96) F zd_MScene_follow_102 (by decide) ?_
          refine zr_iload_n F zd_MScene_follow_104 rfl ?_
          refine zr_imul F zd_MScene_follow_105 ?_
          refine zr_iconstv (v := 3) F zd_MScene_follow_106 (by decide) ?_
          refine zr_pcn 107 rfl ?_
          refine zr_iload_n F zd_MScene_follow_107 rfl ?_
          refine zr_iconstv (v := 1) F zd_MScene_follow_108 (by decide) ?_
          refine zr_isub F zd_MScene_follow_109 ?_
          refine zr_imul F zd_MScene_follow_110 ?_
          refine zr_iadd F zd_MScene_follow_111 ?_
          refine zr_iload F zd_MScene_follow_112 rfl ?_
          refine zr_iadd F zd_MScene_follow_114 ?_
          obtain ⟨i48, ei48, h⟩ := zoL_s h
          rw [← ei48]
          obtain ⟨le50, hs49, h⟩ := zoS_s h
          obtain ⟨hi51, h⟩ := zoI_s h
          refine zr_iald F zd_MScene_follow_115 (zW_a0 hs49) hi51 ?_
          refine zr_pcn 116 rfl ?_
          refine zr_goto F 129 zd_MScene_follow_116 (by decide) ?_
          obtain ⟨x52, ex52, h⟩ := zoL_s h
          rw [← ex52]
          obtain ⟨i53, ei53, h⟩ := zoL_s h
          rw [← ei53]
          obtain ⟨le55, hs54, h⟩ := zoS_s h
          obtain ⟨hi56, h⟩ := zoI_s h
          refine zr_iast F zd_MScene_follow_129 (zW_a0 hs54) hi56 ?_
          obtain ⟨mm57, emm57, h⟩ := zoL_s h
          refine zr_norm (zW tA b sh mm57) _ (by rw [emm57]; exact zW_s0 hs54) rfl ?_
          refine zr_iinc (v := (v6 + 1)) F zd_MScene_follow_130 rfl rfl (by decide) ?_
          refine zr_goto F 53 zd_MScene_follow_133 (by decide) ?_
          refine zr_loc (L' := [(0, .ref (b + v0)), (1, .int v1), (2, .int v2), (3, .int v3), (4, .int v4), (5, .ref (b + v5)), (6, .int (v6 + 1))]) ⟨rfl, rfl, rfl, rfl, rfl, rfl, rfl, trivial⟩ ?_
          exact ih _ _ _ _ _ _ _ _ _ h hx0
      ·
        replace h := (if_pos hb35).symm.trans h
        refine zr_aload_n F zd_MScene_follow_77 rfl ?_
        obtain ⟨le59, hs58, h⟩ := zoS_s h
        obtain ⟨a60, ea60, h⟩ := zoB_s h
        refine zr_get F 15 30 zd_MScene_follow_78 (zW_o hs58 (by decide)) rfl (by decide) zw_1402 rfl (by rfl) ?_
        refine zr_tor ea60 ?_
        refine zr_bipushv (v := 96) F zd_MScene_follow_81 (by decide) ?_
        refine zr_iload_n F zd_MScene_follow_83 rfl ?_
        refine zr_pcn 84 rfl ?_
        refine zr_imul F zd_MScene_follow_84 ?_
        refine zr_iload F zd_MScene_follow_85 rfl ?_
        refine zr_iadd F zd_MScene_follow_87 ?_
        obtain ⟨i61, ei61, h⟩ := zoL_s h
        rw [← ei61]
        obtain ⟨le63, hs62, h⟩ := zoS_s h
        obtain ⟨hi64, h⟩ := zoI_s h
        refine zr_iald F zd_MScene_follow_88 (zW_a0 hs62) hi64 ?_
        refine zr_goto F 129 zd_MScene_follow_89 (by decide) ?_
        obtain ⟨x65, ex65, h⟩ := zoL_s h
        rw [← ex65]
        obtain ⟨i66, ei66, h⟩ := zoL_s h
        rw [← ei66]
        obtain ⟨le68, hs67, h⟩ := zoS_s h
        obtain ⟨hi69, h⟩ := zoI_s h
        refine zr_iast F zd_MScene_follow_129 (zW_a0 hs67) hi69 ?_
        obtain ⟨mm70, emm70, h⟩ := zoL_s h
        refine zr_norm (zW tA b sh mm70) _ (by rw [emm70]; exact zW_s0 hs67) rfl ?_
        refine zr_iinc (v := (v6 + 1)) F zd_MScene_follow_130 rfl rfl (by decide) ?_
        refine zr_goto F 53 zd_MScene_follow_133 (by decide) ?_
        refine zr_loc (L' := [(0, .ref (b + v0)), (1, .int v1), (2, .int v2), (3, .int v3), (4, .int v4), (5, .ref (b + v5)), (6, .int (v6 + 1))]) ⟨rfl, rfl, rfl, rfl, rfl, rfl, rfl, trivial⟩ ?_
        exact ih _ _ _ _ _ _ _ _ _ h hx0
def F_MScene_follow (sh : zSh) (mm : zMem) (o : Nat) (x0_ : Int32) (x1_ : Int32) : Option zMem := zoS (sh o) 15 (fun le2 => Option.bind (mm.2.2 o 28) (fun a3 => zoS (sh a3) 100 (fun le5 => if (x0_ : Int32) < 0 ∨ le5 ≤ (x0_ : Int32).toNatClampNeg then none else zoL (mm.1 a3 (x0_ : Int32).toNatClampNeg) (fun x7 => Option.bind (L_MScene_follow_10 sh zfuel o x0_ x1_ x7 0 mm) (fun q17 => zoS (sh (q17.1)) 15 (fun le19 => Option.bind ((q17.2.2.2.2.2).2.2 (q17.1) 26) (fun a20 => zoS (sh a20) 100 (fun le22 => if (q17.2.1 : Int32) < 0 ∨ le22 ≤ (q17.2.1 : Int32).toNatClampNeg then none else zoS (sh (q17.1)) 15 (fun le25 => zoL ((q17.2.2.2.2.2).1 a20 (q17.2.1 : Int32).toNatClampNeg) (fun x26 => Option.bind (F_MScene_of sh (q17.2.2.2.2.2) (q17.1) x26) (fun p27 => Option.bind (L_MScene_follow_53 sh zfuel (q17.1) (q17.2.1) (q17.2.2.1) (q17.2.2.2.1) (q17.2.2.2.2.1) (p27.1) 0 (p27.2)) (fun q71 => some (q71.2.2.2.2.2.2.2)))))))))))))
set_option maxHeartbeats 4000000 in
set_option maxRecDepth 100000 in
theorem k_MScene_follow (l : Launch) (D : va_G) (tA : Nat → ClassId) (b : Nat) (sh : zSh) (n : Nat) {mm : zMem} {o : Nat} {x0_ : Int32} {x1_ : Int32} {r : zMem} (h : F_MScene_follow sh mm o x0_ x1_ = some r) : zM l D tA b zy_MScene_follow zb_MScene_follow 7 none 3 84 0 0 [.ref (b + o), .int x0_, .int x1_] (zW tA b sh mm) n (zE none (zW tA b sh r) n) := by
  unfold F_MScene_follow at h
  refine zM_of (own := "OrreryBoxModel$Scene") (plainFor_of_name (by decide)) rfl (Nat.le_of_ble_eq_true rfl) (fun p e s m below meth c F hr hin hH => ?_)
  refine zr_aload_n F zd_MScene_follow_0 rfl ?_
  obtain ⟨le2, hs1, h⟩ := zoS_s h
  obtain ⟨a3, ea3, h⟩ := zoB_s h
  refine zr_get F 15 28 zd_MScene_follow_1 (zW_o hs1 (by decide)) rfl (by decide) zw_1398 rfl (by rfl) ?_
  refine zr_tor ea3 ?_
  refine zr_iload_n F zd_MScene_follow_4 rfl ?_
  obtain ⟨le5, hs4, h⟩ := zoS_s h
  obtain ⟨hi6, h⟩ := zoI_s h
  refine zr_iald F zd_MScene_follow_5 (zW_a0 hs4) hi6 ?_
  obtain ⟨x7, ex7, h⟩ := zoL_s h
  rw [← ex7]
  refine zr_istore_n F zd_MScene_follow_6 (by decide) ?_
  refine zr_iconstv (v := 0) F zd_MScene_follow_7 (by decide) ?_
  refine zr_istore F zd_MScene_follow_8 (by decide) ?_
  obtain ⟨q17, eq17, h⟩ := zoB_s h
  refine zr_loc (L' := [(0, .ref (b + o)), (1, .int x0_), (2, .int x1_), (3, .int x7), (4, .int 0)]) ⟨rfl, rfl, rfl, rfl, rfl, trivial⟩ ?_
  refine lp_MScene_follow_10 F _ _ _ _ _ _ _ _ eq17 ?_
  ·
    refine zr_aload_n F zd_MScene_follow_38 rfl ?_
    refine zr_pcn 39 rfl ?_
    refine zr_aload_n F zd_MScene_follow_39 rfl ?_
    obtain ⟨le19, hs18, h⟩ := zoS_s h
    obtain ⟨a20, ea20, h⟩ := zoB_s h
    refine zr_get F 15 26 zd_MScene_follow_40 (zW_o hs18 (by decide)) rfl (by decide) zw_1394 rfl (by rfl) ?_
    refine zr_tor ea20 ?_
    refine zr_iload_n F zd_MScene_follow_43 rfl ?_
    obtain ⟨le22, hs21, h⟩ := zoS_s h
    obtain ⟨hi23, h⟩ := zoI_s h
    refine zr_iald F zd_MScene_follow_44 (zW_a0 hs21) hi23 ?_
    obtain ⟨le25, hs24, h⟩ := zoS_s h
    obtain ⟨x26, ex26, h⟩ := zoL_s h
    rw [← ex26]
    obtain ⟨p27, ep27, h⟩ := zoB_s h
    refine zr_callV1 F (k_MScene_of l D tA b sh _ ep27) zd_MScene_follow_45 (zW_o hs24 (by decide)) rfl zs_MScene_129 rfl zq_MScene_of rfl rfl ⟨(Nat.le_of_ble_eq_true rfl), (Nat.le_of_ble_eq_true rfl)⟩ (Nat.le_of_ble_eq_true rfl) ⟨(Nat.le_of_ble_eq_true rfl), (Nat.le_of_ble_eq_true rfl)⟩ ?_
    refine zr_astore F zd_MScene_follow_48 (by decide) ?_
    refine zr_loc (L' := [(0, .ref (b + (q17.1))), (1, .int (q17.2.1)), (2, .int (q17.2.2.1)), (3, .int (q17.2.2.2.1)), (4, .int (q17.2.2.2.2.1)), (5, .ref (b + (p27.1)))]) ⟨rfl, rfl, rfl, rfl, rfl, rfl, trivial⟩ ?_
    refine zr_iconstv (v := 0) F zd_MScene_follow_50 (by decide) ?_
    refine zr_istore F zd_MScene_follow_51 (by decide) ?_
    obtain ⟨q71, eq71, h⟩ := zoB_s h
    refine zr_loc (L' := [(0, .ref (b + (q17.1))), (1, .int (q17.2.1)), (2, .int (q17.2.2.1)), (3, .int (q17.2.2.2.1)), (4, .int (q17.2.2.2.2.1)), (5, .ref (b + (p27.1))), (6, .int 0)]) ⟨rfl, rfl, rfl, rfl, rfl, rfl, rfl, trivial⟩ ?_
    refine lp_MScene_follow_53 F _ _ _ _ _ _ _ _ _ _ eq71 ?_
    ·
      refine zr_pcn 136 rfl ?_
      obtain rfl := Option.some.inj h
      exact zr_vret F hr zd_MScene_follow_136 (Nat.le_of_ble_eq_true rfl) (Nat.le_of_ble_eq_true rfl) ⟨rfl, rfl, rfl⟩
theorem zw_232 : (Jvm.Cond.fieldLink "OrreryBox" (151 : Nat) "OrreryBox$Node" "placing" "[I") ∈ gw := gw_t 232 (by decide +kernel) rfl
def F_OB_world (sh : zSh) (mm : zMem) (o : Nat) (x0_ : Int32) (x1_ : Int32) (x2_ : Int32) : Option (Int32 × zMem) := zoS (sh o) 0 (fun le2 => Option.bind (mm.2.2 o 5) (fun a3 => zoS (sh a3) 8 (fun le5 => Option.bind (F_XScene_hasNode sh mm a3 x0_) (fun p6 => (if p6.1 = 0 then none else (if (sp_OB_within x1_ 0 2) = 0 then none else (if (sp_OB_within x2_ 0 3) = 0 then none else zoS (sh o) 0 (fun le13 => Option.bind ((p6.2).2.2 o 5) (fun a14 => zoS (sh a14) 8 (fun le16 => Option.bind (F_XScene_placeNodes sh (p6.2) a14) (fun p17 => zoS (sh o) 0 (fun le19 => Option.bind (p17.2.2 o 5) (fun a20 => zoS (sh a20) 8 (fun le22 => Option.bind (p17.2.2 a20 4) (fun a23 => zoR (sh a23) (fun t27 le25 => if (x0_ : Int32) < 0 ∨ le25 ≤ (x0_ : Int32).toNatClampNeg then none else Option.bind (p17.2.2 a23 (x0_ : Int32).toNatClampNeg) (fun a28 => zoS (sh a28) 3 (fun le30 => Option.bind (p17.2.2 a28 5) (fun a31 => zoL ((4 * x1_) + x2_) (fun i32 => zoS (sh a31) 100 (fun le34 => if (i32 : Int32) < 0 ∨ le34 ≤ (i32 : Int32).toNatClampNeg then none else some ((p17.1 a31 (i32 : Int32).toNatClampNeg), p17))))))))))))))))))))))
set_option maxHeartbeats 4000000 in
set_option maxRecDepth 100000 in
theorem k_OB_world (l : Launch) (D : va_G) (tA : Nat → ClassId) (b : Nat) (sh : zSh) (n : Nat) {mm : zMem} {o : Nat} {x0_ : Int32} {x1_ : Int32} {x2_ : Int32} {r : (Int32 × zMem)} (h : F_OB_world sh mm o x0_ x1_ x2_ = some r) : zM l D tA b zy_OB_world zb_OB_world 4 (some .int) 6 147 0 0 [.ref (b + o), .int x0_, .int x1_, .int x2_] (zW tA b sh mm) n (zE (some (.int (r.1))) (zW tA b sh r.2) n) := by
  unfold F_OB_world at h
  refine zM_of (own := "OrreryBox") (plainFor_of_name (by decide)) rfl (Nat.le_of_ble_eq_true rfl) (fun p e s m below meth c F hr hin hH => ?_)
  refine zr_aload_n F zd_OB_world_0 rfl ?_
  obtain ⟨le2, hs1, h⟩ := zoS_s h
  obtain ⟨a3, ea3, h⟩ := zoB_s h
  refine zr_get F 0 5 zd_OB_world_1 (zW_o hs1 (by decide)) rfl (by decide) zw_493 rfl (by rfl) ?_
  refine zr_tor ea3 ?_
  refine zr_iload_n F zd_OB_world_4 rfl ?_
  obtain ⟨le5, hs4, h⟩ := zoS_s h
  obtain ⟨p6, ep6, h⟩ := zoB_s h
  refine zr_callV1 F (k_XScene_hasNode l D tA b sh _ ep6) zd_OB_world_5 (zW_o hs4 (by decide)) rfl zs_OB_105 rfl zq_XScene_hasNode rfl rfl ⟨(Nat.le_of_ble_eq_true rfl), (Nat.le_of_ble_eq_true rfl)⟩ (Nat.le_of_ble_eq_true rfl) ⟨(Nat.le_of_ble_eq_true rfl), (Nat.le_of_ble_eq_true rfl)⟩ ?_
  refine zr_if_eq F 29 zd_OB_world_8 (by decide) (fun hb7 => ?_) (fun hb7 => ?_)
  ·
    replace h := (if_pos hb7).symm.trans h
    cases h
  ·
    replace h := (if_neg hb7).symm.trans h
    refine zr_iload_n F zd_OB_world_11 rfl ?_
    refine zr_pcn 12 rfl ?_
    refine zr_iconstv (v := 0) F zd_OB_world_12 (by decide) ?_
    refine zr_iconstv (v := 2) F zd_OB_world_13 (by decide) ?_
    refine zr_callS1 F (c_OB_within l D tA b _ _ x1_ 0 2) zd_OB_world_14 zs_OB_97 zq_OB_within rfl rfl ⟨(Nat.le_of_ble_eq_true rfl), (Nat.le_of_ble_eq_true rfl)⟩ (Nat.le_of_ble_eq_true rfl) ⟨(Nat.le_of_ble_eq_true rfl), (Nat.le_of_ble_eq_true rfl)⟩ ?_
    refine zr_if_eq F 29 zd_OB_world_17 (by decide) (fun hb9 => ?_) (fun hb9 => ?_)
    ·
      replace h := (if_pos hb9).symm.trans h
      cases h
    ·
      replace h := (if_neg hb9).symm.trans h
      refine zr_iload_n F zd_OB_world_20 rfl ?_
      refine zr_iconstv (v := 0) F zd_OB_world_21 (by decide) ?_
      refine zr_iconstv (v := 3) F zd_OB_world_22 (by decide) ?_
      refine zr_pcn 23 rfl ?_
      refine zr_callS1 F (c_OB_within l D tA b _ _ x2_ 0 3) zd_OB_world_23 zs_OB_97 zq_OB_within rfl rfl ⟨(Nat.le_of_ble_eq_true rfl), (Nat.le_of_ble_eq_true rfl)⟩ (Nat.le_of_ble_eq_true rfl) ⟨(Nat.le_of_ble_eq_true rfl), (Nat.le_of_ble_eq_true rfl)⟩ ?_
      refine zr_if_ne F 37 zd_OB_world_26 (by decide) (fun hb11 => ?_) (fun hb11 => ?_)
      ·
        replace h := (if_neg hb11).symm.trans h
        refine zr_aload_n F zd_OB_world_37 rfl ?_
        obtain ⟨le13, hs12, h⟩ := zoS_s h
        obtain ⟨a14, ea14, h⟩ := zoB_s h
        refine zr_get F 0 5 zd_OB_world_38 (zW_o hs12 (by decide)) rfl (by decide) zw_493 rfl (by rfl) ?_
        refine zr_tor ea14 ?_
        obtain ⟨le16, hs15, h⟩ := zoS_s h
        obtain ⟨p17, ep17, h⟩ := zoB_s h
        refine zr_callV0 F (k_XScene_placeNodes l D tA b sh _ ep17) zd_OB_world_41 (zW_o hs15 (by decide)) rfl zs_OB_148 rfl zq_XScene_placeNodes rfl rfl ⟨(Nat.le_of_ble_eq_true rfl), (Nat.le_of_ble_eq_true rfl)⟩ (Nat.le_of_ble_eq_true rfl) ⟨(Nat.le_of_ble_eq_true rfl), (Nat.le_of_ble_eq_true rfl)⟩ ?_
        refine zr_aload_n F zd_OB_world_44 rfl ?_
        obtain ⟨le19, hs18, h⟩ := zoS_s h
        obtain ⟨a20, ea20, h⟩ := zoB_s h
        refine zr_get F 0 5 zd_OB_world_45 (zW_o hs18 (by decide)) rfl (by decide) zw_493 rfl (by rfl) ?_
        refine zr_tor ea20 ?_
        obtain ⟨le22, hs21, h⟩ := zoS_s h
        obtain ⟨a23, ea23, h⟩ := zoB_s h
        refine zr_get F 8 4 zd_OB_world_48 (zW_o hs21 (by decide)) rfl (by decide) zw_298 rfl (by rfl) ?_
        refine zr_tor ea23 ?_
        refine zr_pcn 51 rfl ?_
        refine zr_iload_n F zd_OB_world_51 rfl ?_
        obtain ⟨t27, le25, hs24, h⟩ := zoR_s h
        obtain ⟨hi26, h⟩ := zoI_s h
        obtain ⟨a28, ea28, h⟩ := zoB_s h
        refine zr_aaldW F zd_OB_world_52 hs24 hi26 ea28 ?_
        obtain ⟨le30, hs29, h⟩ := zoS_s h
        obtain ⟨a31, ea31, h⟩ := zoB_s h
        refine zr_get F 3 5 zd_OB_world_53 (zW_o hs29 (by decide)) rfl (by decide) zw_232 rfl (by rfl) ?_
        refine zr_tor ea31 ?_
        refine zr_iconstv (v := 4) F zd_OB_world_56 (by decide) ?_
        refine zr_iload_n F zd_OB_world_57 rfl ?_
        refine zr_imul F zd_OB_world_58 ?_
        refine zr_iload_n F zd_OB_world_59 rfl ?_
        refine zr_iadd F zd_OB_world_60 ?_
        refine zr_pcn 61 rfl ?_
        obtain ⟨i32, ei32, h⟩ := zoL_s h
        rw [← ei32]
        obtain ⟨le34, hs33, h⟩ := zoS_s h
        obtain ⟨hi35, h⟩ := zoI_s h
        refine zr_iald F zd_OB_world_61 (zW_a0 hs33) hi35 ?_
        obtain rfl := Option.some.inj h
        exact zr_iret F hr zd_OB_world_62 (Nat.le_of_ble_eq_true rfl) (Nat.le_of_ble_eq_true rfl) ⟨rfl, rfl, rfl⟩
      ·
        replace h := (if_pos hb11).symm.trans h
        cases h
def T_OB_world (sh : zSh) (mm : zMem) (o : Nat) (x0_ : Int32) (x1_ : Int32) (x2_ : Int32) : Option zMem := zoS (sh o) 0 (fun le2 => Option.bind (mm.2.2 o 5) (fun a3 => zoS (sh a3) 8 (fun le5 => Option.bind (F_XScene_hasNode sh mm a3 x0_) (fun p6 => (if p6.1 = 0 then some (p6.2) else (if (sp_OB_within x1_ 0 2) = 0 then some (p6.2) else (if (sp_OB_within x2_ 0 3) = 0 then some (p6.2) else zoS (sh o) 0 (fun le13 => Option.bind ((p6.2).2.2 o 5) (fun a14 => zoS (sh a14) 8 (fun le16 => Option.bind (F_XScene_placeNodes sh (p6.2) a14) (fun p17 => zoS (sh o) 0 (fun le19 => Option.bind (p17.2.2 o 5) (fun a20 => zoS (sh a20) 8 (fun le22 => Option.bind (p17.2.2 a20 4) (fun a23 => zoR (sh a23) (fun t27 le25 => if (x0_ : Int32) < 0 ∨ le25 ≤ (x0_ : Int32).toNatClampNeg then none else Option.bind (p17.2.2 a23 (x0_ : Int32).toNatClampNeg) (fun a28 => zoS (sh a28) 3 (fun le30 => Option.bind (p17.2.2 a28 5) (fun a31 => zoL ((4 * x1_) + x2_) (fun i32 => zoS (sh a31) 100 (fun le34 => if (i32 : Int32) < 0 ∨ le34 ≤ (i32 : Int32).toNatClampNeg then none else none)))))))))))))))))))))
set_option maxHeartbeats 4000000 in
set_option maxRecDepth 100000 in
theorem kT_OB_world (l : Launch) (D : va_G) (tA : Nat → ClassId) (b : Nat) (sh : zSh) (n : Nat) (hl : l.stackTraces = false) {mm : zMem} {o : Nat} {x0_ : Int32} {x1_ : Int32} {x2_ : Int32} {r : zMem} (h : T_OB_world sh mm o x0_ x1_ x2_ = some r) : zMT l D tA b zy_OB_world zb_OB_world 4 (some .int) 6 147 1 6 [.ref (b + o), .int x0_, .int x1_, .int x2_] (zW tA b sh mm) n "java/util/NoSuchElementException" (zW tA b sh r) (n + 1) := by
  unfold T_OB_world at h
  refine zMT_of (own := "OrreryBox") (plainFor_of_name (by decide)) rfl (Nat.le_of_ble_eq_true rfl) (fun p e s m below meth c F hno hH => ?_)
  refine zr_aload_n F zd_OB_world_0 rfl ?_
  obtain ⟨le2, hs1, h⟩ := zoS_s h
  obtain ⟨a3, ea3, h⟩ := zoB_s h
  refine zr_get F 0 5 zd_OB_world_1 (zW_o hs1 (by decide)) rfl (by decide) zw_493 rfl (by rfl) ?_
  refine zr_tor ea3 ?_
  refine zr_iload_n F zd_OB_world_4 rfl ?_
  obtain ⟨le5, hs4, h⟩ := zoS_s h
  obtain ⟨p6, ep6, h⟩ := zoB_s h
  refine zr_callV1 F (k_XScene_hasNode l D tA b sh _ ep6) zd_OB_world_5 (zW_o hs4 (by decide)) rfl zs_OB_105 rfl zq_XScene_hasNode rfl rfl ⟨(Nat.le_of_ble_eq_true rfl), (Nat.le_of_ble_eq_true rfl)⟩ (Nat.le_of_ble_eq_true rfl) ⟨(Nat.le_of_ble_eq_true rfl), (Nat.le_of_ble_eq_true rfl)⟩ ?_
  refine zr_if_eq F 29 zd_OB_world_8 (by decide) (fun hb7 => ?_) (fun hb7 => ?_)
  ·
    replace h := (if_pos hb7).symm.trans h
    obtain rfl := Option.some.inj h
    exact zr_throwNew (names := ["java/lang/RuntimeException", "java/lang/Exception"]) F hl hno zd_OB_world_29 zd_OB_world_32 zd_OB_world_33 zd_OB_world_36 (by decide) (by decide) (fun U hG hts => zat_NSE U hG hts) zw_1287 zw_1288 zw_28 (Nat.le_of_ble_eq_true rfl) (Nat.le_of_ble_eq_true rfl) (Nat.le_of_ble_eq_true rfl) (Nat.le_of_ble_eq_true rfl) (Nat.le_of_ble_eq_true rfl) (Nat.le_of_ble_eq_true rfl)
  ·
    replace h := (if_neg hb7).symm.trans h
    refine zr_iload_n F zd_OB_world_11 rfl ?_
    refine zr_pcn 12 rfl ?_
    refine zr_iconstv (v := 0) F zd_OB_world_12 (by decide) ?_
    refine zr_iconstv (v := 2) F zd_OB_world_13 (by decide) ?_
    refine zr_callS1 F (c_OB_within l D tA b _ _ x1_ 0 2) zd_OB_world_14 zs_OB_97 zq_OB_within rfl rfl ⟨(Nat.le_of_ble_eq_true rfl), (Nat.le_of_ble_eq_true rfl)⟩ (Nat.le_of_ble_eq_true rfl) ⟨(Nat.le_of_ble_eq_true rfl), (Nat.le_of_ble_eq_true rfl)⟩ ?_
    refine zr_if_eq F 29 zd_OB_world_17 (by decide) (fun hb9 => ?_) (fun hb9 => ?_)
    ·
      replace h := (if_pos hb9).symm.trans h
      obtain rfl := Option.some.inj h
      exact zr_throwNew (names := ["java/lang/RuntimeException", "java/lang/Exception"]) F hl hno zd_OB_world_29 zd_OB_world_32 zd_OB_world_33 zd_OB_world_36 (by decide) (by decide) (fun U hG hts => zat_NSE U hG hts) zw_1287 zw_1288 zw_28 (Nat.le_of_ble_eq_true rfl) (Nat.le_of_ble_eq_true rfl) (Nat.le_of_ble_eq_true rfl) (Nat.le_of_ble_eq_true rfl) (Nat.le_of_ble_eq_true rfl) (Nat.le_of_ble_eq_true rfl)
    ·
      replace h := (if_neg hb9).symm.trans h
      refine zr_iload_n F zd_OB_world_20 rfl ?_
      refine zr_iconstv (v := 0) F zd_OB_world_21 (by decide) ?_
      refine zr_iconstv (v := 3) F zd_OB_world_22 (by decide) ?_
      refine zr_pcn 23 rfl ?_
      refine zr_callS1 F (c_OB_within l D tA b _ _ x2_ 0 3) zd_OB_world_23 zs_OB_97 zq_OB_within rfl rfl ⟨(Nat.le_of_ble_eq_true rfl), (Nat.le_of_ble_eq_true rfl)⟩ (Nat.le_of_ble_eq_true rfl) ⟨(Nat.le_of_ble_eq_true rfl), (Nat.le_of_ble_eq_true rfl)⟩ ?_
      refine zr_if_ne F 37 zd_OB_world_26 (by decide) (fun hb11 => ?_) (fun hb11 => ?_)
      ·
        replace h := (if_neg hb11).symm.trans h
        refine zr_aload_n F zd_OB_world_37 rfl ?_
        obtain ⟨le13, hs12, h⟩ := zoS_s h
        obtain ⟨a14, ea14, h⟩ := zoB_s h
        refine zr_get F 0 5 zd_OB_world_38 (zW_o hs12 (by decide)) rfl (by decide) zw_493 rfl (by rfl) ?_
        refine zr_tor ea14 ?_
        obtain ⟨le16, hs15, h⟩ := zoS_s h
        obtain ⟨p17, ep17, h⟩ := zoB_s h
        refine zr_callV0 F (k_XScene_placeNodes l D tA b sh _ ep17) zd_OB_world_41 (zW_o hs15 (by decide)) rfl zs_OB_148 rfl zq_XScene_placeNodes rfl rfl ⟨(Nat.le_of_ble_eq_true rfl), (Nat.le_of_ble_eq_true rfl)⟩ (Nat.le_of_ble_eq_true rfl) ⟨(Nat.le_of_ble_eq_true rfl), (Nat.le_of_ble_eq_true rfl)⟩ ?_
        refine zr_aload_n F zd_OB_world_44 rfl ?_
        obtain ⟨le19, hs18, h⟩ := zoS_s h
        obtain ⟨a20, ea20, h⟩ := zoB_s h
        refine zr_get F 0 5 zd_OB_world_45 (zW_o hs18 (by decide)) rfl (by decide) zw_493 rfl (by rfl) ?_
        refine zr_tor ea20 ?_
        obtain ⟨le22, hs21, h⟩ := zoS_s h
        obtain ⟨a23, ea23, h⟩ := zoB_s h
        refine zr_get F 8 4 zd_OB_world_48 (zW_o hs21 (by decide)) rfl (by decide) zw_298 rfl (by rfl) ?_
        refine zr_tor ea23 ?_
        refine zr_pcn 51 rfl ?_
        refine zr_iload_n F zd_OB_world_51 rfl ?_
        obtain ⟨t27, le25, hs24, h⟩ := zoR_s h
        obtain ⟨hi26, h⟩ := zoI_s h
        obtain ⟨a28, ea28, h⟩ := zoB_s h
        refine zr_aaldW F zd_OB_world_52 hs24 hi26 ea28 ?_
        obtain ⟨le30, hs29, h⟩ := zoS_s h
        obtain ⟨a31, ea31, h⟩ := zoB_s h
        refine zr_get F 3 5 zd_OB_world_53 (zW_o hs29 (by decide)) rfl (by decide) zw_232 rfl (by rfl) ?_
        refine zr_tor ea31 ?_
        refine zr_iconstv (v := 4) F zd_OB_world_56 (by decide) ?_
        refine zr_iload_n F zd_OB_world_57 rfl ?_
        refine zr_imul F zd_OB_world_58 ?_
        refine zr_iload_n F zd_OB_world_59 rfl ?_
        refine zr_iadd F zd_OB_world_60 ?_
        refine zr_pcn 61 rfl ?_
        obtain ⟨i32, ei32, h⟩ := zoL_s h
        rw [← ei32]
        obtain ⟨le34, hs33, h⟩ := zoS_s h
        obtain ⟨hi35, h⟩ := zoI_s h
        refine zr_iald F zd_OB_world_61 (zW_a0 hs33) hi35 ?_
        cases h
      ·
        replace h := (if_pos hb11).symm.trans h
        obtain rfl := Option.some.inj h
        exact zr_throwNew (names := ["java/lang/RuntimeException", "java/lang/Exception"]) F hl hno zd_OB_world_29 zd_OB_world_32 zd_OB_world_33 zd_OB_world_36 (by decide) (by decide) (fun U hG hts => zat_NSE U hG hts) zw_1287 zw_1288 zw_28 (Nat.le_of_ble_eq_true rfl) (Nat.le_of_ble_eq_true rfl) (Nat.le_of_ble_eq_true rfl) (Nat.le_of_ble_eq_true rfl) (Nat.le_of_ble_eq_true rfl) (Nat.le_of_ble_eq_true rfl)
theorem zw_1935 : (Jvm.Cond.methodLink "OrreryBoxModel" (129 : Nat) ({ cls := "OrreryBoxModel$Scene", name := "follow", desc := "(II)V" } : Jvm.MethodName)) ∈ gw := gw_t 1935 (by decide +kernel) rfl
theorem zw_1936 : (Jvm.Cond.instanceMethod ({ cls := "OrreryBoxModel$Scene", name := "follow", desc := "(II)V" } : Jvm.MethodName)) ∈ gw := gw_t 1936 (by decide +kernel) rfl
theorem zw_1937 : (Jvm.Cond.selects "OrreryBoxModel$Scene" ({ cls := "OrreryBoxModel$Scene", name := "follow", desc := "(II)V" } : Jvm.MethodName) ({ cls := "OrreryBoxModel$Scene", name := "follow", desc := "(II)V" } : Jvm.MethodName)) ∈ gw := gw_t 1937 (by decide +kernel) rfl
theorem zs_MD_129 : zwV "OrreryBoxModel" 129 "OrreryBoxModel$Scene" zy_MScene_follow zb_MScene_follow 7 none := ⟨zw_1935, zw_1936, zw_1937, zw_14, zc_MScene_follow⟩
def L_MD_time_24 (sh : zSh) (fuel : Nat) (v0 : Nat) (v1 : Int32) (v2 : Int32) (mm : zMem) : Option (Nat × Int32 × Int32 × zMem) := match fuel with
  | 0 => none
  | fu + 1 => zoS (sh v0) 1 (fun le10 => Option.bind (mm.2.2 v0 4) (fun a11 => zoS (sh a11) 15 (fun le13 => (if (mm.1 a11 4) ≤ v2 then some (v0, v1, v2, mm) else zoS (sh v0) 1 (fun le16 => Option.bind (mm.2.2 v0 4) (fun a17 => zoS (sh a17) 15 (fun le19 => Option.bind (F_MScene_follow sh mm a17 v2 v1) (fun p20 => L_MD_time_24 sh fu v0 v1 (v2 + 1) p20))))))))
set_option maxHeartbeats 4000000 in
set_option maxRecDepth 100000 in
theorem lp_MD_time_24 {p : Program} {l : Launch} {e : Env} {s : State} {m : MethodId} {args : Array Value} {below : List Frame} {meth : Method} {c : Code} {D : va_G} {tA : Nat → ClassId} {b n : Nat} {post : Option Value → zV → Nat → Prop} {sh : zSh} (F : zF p s m args meth c zb_MD_time 3 "OrreryBoxModel" D tA b) : ∀ (fuel : Nat) (v0 : Nat) (v1 : Int32) (v2 : Int32) (mm : zMem) (r : Nat × Int32 × Int32 × zMem), L_MD_time_24 sh fuel v0 v1 v2 mm = some r → (Z p l e { frames := 4, cells := 0, slots := 0, locals := 110 } s m args below meth c D b 3 (MQ below (zQ D b post) args s 0 0 (fun q => b ≤ q)) (zW tA b sh r.2.2.2) n 0 0 50 [(0, .ref (b + (r.1))), (1, .int (r.2.1)), (2, .int (r.2.2.1))] []) → Z p l e { frames := 4, cells := 0, slots := 0, locals := 110 } s m args below meth c D b 3 (MQ below (zQ D b post) args s 0 0 (fun q => b ≤ q)) (zW tA b sh mm) n 0 0 24 [(0, .ref (b + v0)), (1, .int v1), (2, .int v2)] [] := by
  intro fuel
  induction fuel with
  | zero =>
    intro v0 v1 v2 mm r h
    cases h
  | succ fu ih =>
    intro v0 v1 v2 mm r h hx0
    rw [L_MD_time_24] at h
    refine zr_pcn 24 rfl ?_
    refine zr_iload_n F zd_MD_time_24 rfl ?_
    refine zr_aload_n F zd_MD_time_25 rfl ?_
    obtain ⟨le10, hs9, h⟩ := zoS_s h
    obtain ⟨a11, ea11, h⟩ := zoB_s h
    refine zr_get F 1 4 zd_MD_time_26 (zW_o hs9 (by decide)) rfl (by decide) zw_1684 rfl (by rfl) ?_
    refine zr_tor ea11 ?_
    obtain ⟨le13, hs12, h⟩ := zoS_s h
    refine zr_get F 15 4 zd_MD_time_29 (zW_o hs12 (by decide)) rfl (by decide) zw_1329 rfl (by rfl) ?_
    refine zr_icmp_ge F 50 zd_MD_time_32 (by decide) (fun hb14 => ?_) (fun hb14 => ?_)
    ·
      replace h := (if_pos hb14).symm.trans h
      obtain rfl := Option.some.inj h
      refine zr_loc (L' := [(0, .ref (b + v0)), (1, .int v1), (2, .int v2)]) ⟨rfl, rfl, rfl, trivial⟩ ?_
      exact hx0 
    ·
      replace h := (if_neg hb14).symm.trans h
      refine zr_aload_n F zd_MD_time_35 rfl ?_
      obtain ⟨le16, hs15, h⟩ := zoS_s h
      obtain ⟨a17, ea17, h⟩ := zoB_s h
      refine zr_get F 1 4 zd_MD_time_36 (zW_o hs15 (by decide)) rfl (by decide) zw_1684 rfl (by rfl) ?_
      refine zr_tor ea17 ?_
      refine zr_iload_n F zd_MD_time_39 rfl ?_
      refine zr_pcn 40 rfl ?_
      refine zr_iload_n F zd_MD_time_40 rfl ?_
      obtain ⟨le19, hs18, h⟩ := zoS_s h
      obtain ⟨p20, ep20, h⟩ := zoB_s h
      refine zr_callV0 F (k_MScene_follow l D tA b sh _ ep20) zd_MD_time_41 (zW_o hs18 (by decide)) rfl zs_MD_129 rfl zq_MScene_follow rfl rfl ⟨(Nat.le_of_ble_eq_true rfl), (Nat.le_of_ble_eq_true rfl)⟩ (Nat.le_of_ble_eq_true rfl) ⟨(Nat.le_of_ble_eq_true rfl), (Nat.le_of_ble_eq_true rfl)⟩ ?_
      refine zr_iinc (v := (v2 + 1)) F zd_MD_time_44 rfl rfl (by decide) ?_
      refine zr_goto F 24 zd_MD_time_47 (by decide) ?_
      refine zr_loc (L' := [(0, .ref (b + v0)), (1, .int v1), (2, .int (v2 + 1))]) ⟨rfl, rfl, rfl, trivial⟩ ?_
      exact ih _ _ _ _ _ h hx0
def F_MD_time (sh : zSh) (mm : zMem) (o : Nat) (x0_ : Int32) : Option (Int32 × zMem) := zoS (sh o) 1 (fun le2 => zoL (mI mm o 11 0) (fun mm3 => (if x0_ < 0 then some (0, mm3) else (if x0_ ≤ 1000000 then zoS (sh o) 1 (fun le7 => zoL (mI mm3 o 10 x0_) (fun mm8 => Option.bind (L_MD_time_24 sh zfuel o x0_ 0 mm8) (fun q21 => some (1, q21.2.2.2)))) else some (0, mm3)))))
set_option maxHeartbeats 4000000 in
set_option maxRecDepth 100000 in
theorem k_MD_time (l : Launch) (D : va_G) (tA : Nat → ClassId) (b : Nat) (sh : zSh) (n : Nat) {mm : zMem} {o : Nat} {x0_ : Int32} {r : (Int32 × zMem)} (h : F_MD_time sh mm o x0_ = some r) : zM l D tA b zy_MD_time zb_MD_time 3 (some .boolean) 4 110 0 0 [.ref (b + o), .int x0_] (zW tA b sh mm) n (zE (some (.int (r.1))) (zW tA b sh r.2) n) := by
  unfold F_MD_time at h
  refine zM_of (own := "OrreryBoxModel") (plainFor_of_name (by decide)) rfl (Nat.le_of_ble_eq_true rfl) (fun p e s m below meth c F hr hin hH => ?_)
  refine zr_aload_n F zd_MD_time_0 rfl ?_
  refine zr_iconstv (v := 0) F zd_MD_time_1 (by decide) ?_
  obtain ⟨le2, hs1, h⟩ := zoS_s h
  refine zr_put F 1 11 zd_MD_time_2 (zW_o hs1 (by decide)) rfl (by decide) zw_1691 rfl rfl rfl rfl (by exact (Nat.le_of_ble_eq_true rfl)) ?_
  obtain ⟨mm3, emm3, h⟩ := zoL_s h
  refine zr_norm (zW tA b sh mm3) _ (by rw [emm3]; exact zW_pI (v := 0) hs1 (by decide) (zf_I_1_11 b _ _ _)) rfl ?_
  refine zr_iload_n F zd_MD_time_5 rfl ?_
  refine zr_if_lt F 15 zd_MD_time_6 (by decide) (fun hb4 => ?_) (fun hb4 => ?_)
  ·
    replace h := (if_pos hb4).symm.trans h
    refine zr_iconstv (v := 0) F zd_MD_time_15 (by decide) ?_
    obtain rfl := Option.some.inj h
    exact zr_zret F hr rfl zd_MD_time_16 (Nat.le_of_ble_eq_true rfl) (Nat.le_of_ble_eq_true rfl) ⟨rfl, rfl, rfl⟩
  ·
    replace h := (if_neg hb4).symm.trans h
    refine zr_pcn 9 rfl ?_
    refine zr_iload_n F zd_MD_time_9 rfl ?_
    refine zr_ldc F zd_MD_time_10 zw_1934 ?_
    refine zr_icmp_le F 17 zd_MD_time_12 (by decide) (fun hb5 => ?_) (fun hb5 => ?_)
    ·
      replace h := (if_pos hb5).symm.trans h
      refine zr_aload_n F zd_MD_time_17 rfl ?_
      refine zr_iload_n F zd_MD_time_18 rfl ?_
      obtain ⟨le7, hs6, h⟩ := zoS_s h
      refine zr_put F 1 10 zd_MD_time_19 (zW_o hs6 (by decide)) rfl (by decide) zw_1690 rfl rfl rfl rfl (by exact (Nat.le_of_ble_eq_true rfl)) ?_
      obtain ⟨mm8, emm8, h⟩ := zoL_s h
      refine zr_norm (zW tA b sh mm8) _ (by rw [emm8]; exact zW_pI (v := x0_) hs6 (by decide) (zf_I_1_10 b _ _ _)) rfl ?_
      refine zr_iconstv (v := 0) F zd_MD_time_22 (by decide) ?_
      refine zr_istore_n F zd_MD_time_23 (by decide) ?_
      obtain ⟨q21, eq21, h⟩ := zoB_s h
      refine zr_loc (L' := [(0, .ref (b + o)), (1, .int x0_), (2, .int 0)]) ⟨rfl, rfl, rfl, trivial⟩ ?_
      refine lp_MD_time_24 F _ _ _ _ _ _ eq21 ?_
      ·
        refine zr_iconstv (v := 1) F zd_MD_time_50 (by decide) ?_
        obtain rfl := Option.some.inj h
        exact zr_zret F hr rfl zd_MD_time_51 (Nat.le_of_ble_eq_true rfl) (Nat.le_of_ble_eq_true rfl) ⟨rfl, rfl, rfl⟩
    ·
      replace h := (if_neg hb5).symm.trans h
      refine zr_iconstv (v := 0) F zd_MD_time_15 (by decide) ?_
      obtain rfl := Option.some.inj h
      exact zr_zret F hr rfl zd_MD_time_16 (Nat.le_of_ble_eq_true rfl) (Nat.le_of_ble_eq_true rfl) ⟨rfl, rfl, rfl⟩
def L_MD_file_16 (sh : zSh) (fuel : Nat) (v0 : Nat) (v1 : Int32) (mm : zMem) : Option (Nat × Int32 × Nat × Int32 × zMem) := match fuel with
  | 0 => none
  | fu + 1 => zoS (sh v0) 1 (fun le8 => Option.bind (F_MD_tiles sh mm v0) (fun p9 => (if p9.1 ≤ v1 then some (1, (0 : Int32), v0, v1, p9.2) else zoS (sh v0) 1 (fun le12 => Option.bind ((p9.2).2.2 v0 16) (fun a13 => zoS (sh a13) 103 (fun le15 => if (v1 : Int32) < 0 ∨ le15 ≤ (v1 : Int32).toNatClampNeg then none else (if ((p9.2).1 a13 (v1 : Int32).toNatClampNeg) = 0 then some (0, (-1), (0 : Nat), (0 : Int32), p9.2) else L_MD_file_16 sh fu v0 (v1 + 1) (p9.2))))))))
set_option maxHeartbeats 4000000 in
set_option maxRecDepth 100000 in
theorem lp_MD_file_16 {p : Program} {l : Launch} {e : Env} {s : State} {m : MethodId} {args : Array Value} {below : List Frame} {meth : Method} {c : Code} {D : va_G} {tA : Nat → ClassId} {b n : Nat} {post : Option Value → zV → Nat → Prop} {sh : zSh} (F : zF p s m args meth c zb_MD_file 2 "OrreryBoxModel" D tA b) (hr : meth.sig.returnType = (some .int)) : ∀ (fuel : Nat) (v0 : Nat) (v1 : Int32) (mm : zMem) (r : Nat × Int32 × Nat × Int32 × zMem), L_MD_file_16 sh fuel v0 v1 mm = some r → (r.1 = 1 → Z p l e { frames := 6, cells := 0, slots := 0, locals := 142 } s m args below meth c D b 2 (MQ below (zQ D b post) args s 0 0 (fun q => b ≤ q)) (zW tA b sh r.2.2.2.2) n 0 0 41 [(0, .ref (b + (r.2.2.1))), (1, .int (r.2.2.2.1))] []) → (r.1 = 0 → post (some (.int r.2.1)) (zW tA b sh r.2.2.2.2) n) → Z p l e { frames := 6, cells := 0, slots := 0, locals := 142 } s m args below meth c D b 2 (MQ below (zQ D b post) args s 0 0 (fun q => b ≤ q)) (zW tA b sh mm) n 0 0 16 [(0, .ref (b + v0)), (1, .int v1)] [] := by
  intro fuel
  induction fuel with
  | zero =>
    intro v0 v1 mm r h
    cases h
  | succ fu ih =>
    intro v0 v1 mm r h hx0 hp
    rw [L_MD_file_16] at h
    refine zr_iload_n F zd_MD_file_16 rfl ?_
    refine zr_aload_n F zd_MD_file_17 rfl ?_
    obtain ⟨le8, hs7, h⟩ := zoS_s h
    obtain ⟨p9, ep9, h⟩ := zoB_s h
    refine zr_callV1 F (k_MD_tiles l D tA b sh _ ep9) zd_MD_file_18 (zW_o hs7 (by decide)) rfl zs_MD_185 rfl zq_MD_tiles rfl rfl ⟨(Nat.le_of_ble_eq_true rfl), (Nat.le_of_ble_eq_true rfl)⟩ (Nat.le_of_ble_eq_true rfl) ⟨(Nat.le_of_ble_eq_true rfl), (Nat.le_of_ble_eq_true rfl)⟩ ?_
    refine zr_icmp_ge F 41 zd_MD_file_21 (by decide) (fun hb10 => ?_) (fun hb10 => ?_)
    ·
      replace h := (if_pos hb10).symm.trans h
      obtain rfl := Option.some.inj h
      refine zr_loc (L' := [(0, .ref (b + v0)), (1, .int v1)]) ⟨rfl, rfl, trivial⟩ ?_
      exact hx0 rfl
    ·
      replace h := (if_neg hb10).symm.trans h
      refine zr_aload_n F zd_MD_file_24 rfl ?_
      obtain ⟨le12, hs11, h⟩ := zoS_s h
      obtain ⟨a13, ea13, h⟩ := zoB_s h
      refine zr_get F 1 16 zd_MD_file_25 (zW_o hs11 (by decide)) rfl (by decide) zw_1696 rfl (by rfl) ?_
      refine zr_tor ea13 ?_
      refine zr_iload_n F zd_MD_file_28 rfl ?_
      refine zr_pcn 29 rfl ?_
      obtain ⟨le15, hs14, h⟩ := zoS_s h
      obtain ⟨hi16, h⟩ := zoI_s h
      refine zr_zald F zd_MD_file_29 (zW_a3 hs14) hi16 ?_
      refine zr_if_ne F 35 zd_MD_file_30 (by decide) (fun hb17 => ?_) (fun hb17 => ?_)
      ·
        replace h := (if_neg hb17).symm.trans h
        refine zr_iinc (v := (v1 + 1)) F zd_MD_file_35 rfl rfl (by decide) ?_
        refine zr_goto F 16 zd_MD_file_38 (by decide) ?_
        refine zr_loc (L' := [(0, .ref (b + v0)), (1, .int (v1 + 1))]) ⟨rfl, rfl, trivial⟩ ?_
        exact ih _ _ _ _ h hx0 hp
      ·
        replace h := (if_pos hb17).symm.trans h
        refine zr_iconstv (v := (-1)) F zd_MD_file_33 (by decide) ?_
        obtain rfl := Option.some.inj h
        exact zr_iret F hr zd_MD_file_34 (Nat.le_of_ble_eq_true rfl) (Nat.le_of_ble_eq_true rfl) (hp rfl)
theorem zw_2186 : (Jvm.Cond.methodLink "OrreryBoxModel" (209 : Nat) ({ cls := "OrreryBoxModel$Packer", name := "write", desc := "(II[I)I" } : Jvm.MethodName)) ∈ gw := gw_t 2186 (by decide +kernel) rfl
theorem zw_2187 : (Jvm.Cond.instanceMethod ({ cls := "OrreryBoxModel$Packer", name := "write", desc := "(II[I)I" } : Jvm.MethodName)) ∈ gw := gw_t 2187 (by decide +kernel) rfl
theorem zw_2188 : (Jvm.Cond.selects "OrreryBoxModel$Packer" ({ cls := "OrreryBoxModel$Packer", name := "write", desc := "(II[I)I" } : Jvm.MethodName) ({ cls := "OrreryBoxModel$Packer", name := "write", desc := "(II[I)I" } : Jvm.MethodName)) ∈ gw := gw_t 2188 (by decide +kernel) rfl
theorem zs_MD_209 : zwV "OrreryBoxModel" 209 "OrreryBoxModel$Packer" zy_MPacker_write zb_MPacker_write 6 (some .int) := ⟨zw_2186, zw_2187, zw_2188, zw_16, zc_MPacker_write⟩
def F_MD_file (sh : zSh) (mm : zMem) (o : Nat) : Option (Int32 × zMem) := zoS (sh o) 1 (fun le2 => zoL (mI mm o 11 0) (fun mm3 => zoS (sh o) 1 (fun le5 => (if (mm3.1 o 15) = 0 then some ((-1), mm3) else Option.bind (L_MD_file_16 sh zfuel o 0 mm3) (fun q18 => (if q18.1 = 1 then zoS (sh (q18.2.2.1)) 1 (fun le20 => Option.bind ((q18.2.2.2.2).2.2 (q18.2.2.1) 9) (fun a21 => zoS (sh (q18.2.2.1)) 1 (fun le23 => zoS (sh (q18.2.2.1)) 1 (fun le25 => zoS (sh (q18.2.2.1)) 1 (fun le27 => Option.bind ((q18.2.2.2.2).2.2 (q18.2.2.1) 17) (fun a28 => zoS (sh a21) 12 (fun le30 => zoL ((q18.2.2.2.2).1 (q18.2.2.1) 0) (fun x31 => zoL ((q18.2.2.2.2).1 (q18.2.2.1) 1) (fun x32 => Option.bind (F_MPacker_write sh (q18.2.2.2.2) a21 x31 x32 a28) (fun p33 => some (p33.1, p33.2))))))))))) else some (q18.2.1, q18.2.2.2.2)))))))
set_option maxHeartbeats 4000000 in
set_option maxRecDepth 100000 in
theorem k_MD_file (l : Launch) (D : va_G) (tA : Nat → ClassId) (b : Nat) (sh : zSh) (n : Nat) {mm : zMem} {o : Nat} {r : (Int32 × zMem)} (h : F_MD_file sh mm o = some r) : zM l D tA b zy_MD_file zb_MD_file 2 (some .int) 6 142 0 0 [.ref (b + o)] (zW tA b sh mm) n (zE (some (.int (r.1))) (zW tA b sh r.2) n) := by
  unfold F_MD_file at h
  refine zM_of (own := "OrreryBoxModel") (plainFor_of_name (by decide)) rfl (Nat.le_of_ble_eq_true rfl) (fun p e s m below meth c F hr hin hH => ?_)
  refine zr_aload_n F zd_MD_file_0 rfl ?_
  refine zr_iconstv (v := 0) F zd_MD_file_1 (by decide) ?_
  obtain ⟨le2, hs1, h⟩ := zoS_s h
  refine zr_put F 1 11 zd_MD_file_2 (zW_o hs1 (by decide)) rfl (by decide) zw_1691 rfl rfl rfl rfl (by exact (Nat.le_of_ble_eq_true rfl)) ?_
  obtain ⟨mm3, emm3, h⟩ := zoL_s h
  refine zr_norm (zW tA b sh mm3) _ (by rw [emm3]; exact zW_pI (v := 0) hs1 (by decide) (zf_I_1_11 b _ _ _)) rfl ?_
  refine zr_aload_n F zd_MD_file_5 rfl ?_
  obtain ⟨le5, hs4, h⟩ := zoS_s h
  refine zr_get F 1 15 zd_MD_file_6 (zW_o hs4 (by decide)) rfl (by decide) zw_1695 rfl (by rfl) ?_
  refine zr_if_ne F 14 zd_MD_file_9 (by decide) (fun hb6 => ?_) (fun hb6 => ?_)
  ·
    replace h := (if_neg hb6).symm.trans h
    refine zr_iconstv (v := 0) F zd_MD_file_14 (by decide) ?_
    refine zr_pcn 15 rfl ?_
    refine zr_istore_n F zd_MD_file_15 (by decide) ?_
    obtain ⟨q18, eq18, h⟩ := zoB_s h
    refine zr_loc (L' := [(0, .ref (b + o)), (1, .int 0)]) ⟨rfl, rfl, trivial⟩ ?_
    refine lp_MD_file_16 F hr _ _ _ _ _ eq18 ?_ ?_
    ·
      intro ec
      rw [if_pos ec] at h
      refine zr_aload_n F zd_MD_file_41 rfl ?_
      obtain ⟨le20, hs19, h⟩ := zoS_s h
      obtain ⟨a21, ea21, h⟩ := zoB_s h
      refine zr_get F 1 9 zd_MD_file_42 (zW_o hs19 (by decide)) rfl (by decide) zw_1689 rfl (by rfl) ?_
      refine zr_tor ea21 ?_
      refine zr_pcn 45 rfl ?_
      refine zr_aload_n F zd_MD_file_45 rfl ?_
      obtain ⟨le23, hs22, h⟩ := zoS_s h
      refine zr_get F 1 0 zd_MD_file_46 (zW_o hs22 (by decide)) rfl (by decide) zw_1680 rfl (by rfl) ?_
      refine zr_aload_n F zd_MD_file_49 rfl ?_
      obtain ⟨le25, hs24, h⟩ := zoS_s h
      refine zr_get F 1 1 zd_MD_file_50 (zW_o hs24 (by decide)) rfl (by decide) zw_1681 rfl (by rfl) ?_
      refine zr_aload_n F zd_MD_file_53 rfl ?_
      obtain ⟨le27, hs26, h⟩ := zoS_s h
      obtain ⟨a28, ea28, h⟩ := zoB_s h
      refine zr_get F 1 17 zd_MD_file_54 (zW_o hs26 (by decide)) rfl (by decide) zw_1697 rfl (by rfl) ?_
      refine zr_tor ea28 ?_
      obtain ⟨le30, hs29, h⟩ := zoS_s h
      obtain ⟨x31, ex31, h⟩ := zoL_s h
      rw [← ex31]
      obtain ⟨x32, ex32, h⟩ := zoL_s h
      rw [← ex32]
      obtain ⟨p33, ep33, h⟩ := zoB_s h
      refine zr_callV1 F (k_MPacker_write l D tA b sh _ ep33) zd_MD_file_57 (zW_o hs29 (by decide)) rfl zs_MD_209 rfl zq_MPacker_write rfl rfl ⟨(Nat.le_of_ble_eq_true rfl), (Nat.le_of_ble_eq_true rfl)⟩ (Nat.le_of_ble_eq_true rfl) ⟨(Nat.le_of_ble_eq_true rfl), (Nat.le_of_ble_eq_true rfl)⟩ ?_
      obtain rfl := Option.some.inj h
      exact zr_iret F hr zd_MD_file_60 (Nat.le_of_ble_eq_true rfl) (Nat.le_of_ble_eq_true rfl) ⟨rfl, rfl, rfl⟩
    ·
      intro ec
      rw [if_neg (by rw [ec]; decide)] at h
      obtain rfl := Option.some.inj h
      exact ⟨rfl, rfl, rfl⟩
  ·
    replace h := (if_pos hb6).symm.trans h
    refine zr_pcn 12 rfl ?_
    refine zr_iconstv (v := (-1)) F zd_MD_file_12 (by decide) ?_
    obtain rfl := Option.some.inj h
    exact zr_iret F hr zd_MD_file_13 (Nat.le_of_ble_eq_true rfl) (Nat.le_of_ble_eq_true rfl) ⟨rfl, rfl, rfl⟩
