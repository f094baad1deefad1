abbrev zb_XReader_numbers : ByteArray := prog_8_method_13_code
def zy_XReader_numbers : MethodName := ⟨"OrreryBox$Reader", "numbers", "(Ljava/lang/String;IIIIZ)I"⟩
theorem zc_XReader_numbers : Cond.code zy_XReader_numbers zb_XReader_numbers 10 (some .int) ∈ gw := gw_t 1190 (by decide +kernel) rfl
theorem zq_XReader_numbers : zy_XReader_numbers.cls ≠ "java/lang/invoke/MethodHandle" ∧ zy_XReader_numbers.cls ≠ "java/lang/invoke/VarHandle" ∧ (parseMethodDescriptor zy_XReader_numbers.desc).map (fun d => d.parameters.length) = some 6 := by decide +kernel
theorem zd_XReader_numbers_0 : decode zb_XReader_numbers 0 = .ok (.aload_n 0, 1) := by decide +kernel
theorem zd_XReader_numbers_1 : decode zb_XReader_numbers 1 = .ok (.aload_n 1, 1) := by decide +kernel
theorem zd_XReader_numbers_2 : decode zb_XReader_numbers 2 = .ok (.invokevirtual 61, 3) := by decide +kernel
theorem zd_XReader_numbers_5 : decode zb_XReader_numbers 5 = .ok (.aload_n 0, 1) := by decide +kernel
theorem zd_XReader_numbers_6 : decode zb_XReader_numbers 6 = .ok (.bipush 91, 2) := by decide +kernel
theorem zd_XReader_numbers_8 : decode zb_XReader_numbers 8 = .ok (.invokevirtual 45, 3) := by decide +kernel
theorem zd_XReader_numbers_11 : decode zb_XReader_numbers 11 = .ok (.aload_n 0, 1) := by decide +kernel
theorem zd_XReader_numbers_12 : decode zb_XReader_numbers 12 = .ok (.bipush 93, 2) := by decide +kernel
theorem zd_XReader_numbers_14 : decode zb_XReader_numbers 14 = .ok (.invokevirtual 49, 3) := by decide +kernel
theorem zd_XReader_numbers_17 : decode zb_XReader_numbers 17 = .ok (.ifCond .ne 7, 3) := by decide +kernel
theorem zd_XReader_numbers_20 : decode zb_XReader_numbers 20 = .ok (.iconst 1, 1) := by decide +kernel
theorem zd_XReader_numbers_21 : decode zb_XReader_numbers 21 = .ok (.goto 4, 3) := by decide +kernel
theorem zd_XReader_numbers_24 : decode zb_XReader_numbers 24 = .ok (.iconst 0, 1) := by decide +kernel
theorem zd_XReader_numbers_25 : decode zb_XReader_numbers 25 = .ok (.istore 7, 2) := by decide +kernel
theorem zd_XReader_numbers_27 : decode zb_XReader_numbers 27 = .ok (.iload 4, 2) := by decide +kernel
theorem zd_XReader_numbers_29 : decode zb_XReader_numbers 29 = .ok (.istore 8, 2) := by decide +kernel
theorem zd_XReader_numbers_31 : decode zb_XReader_numbers 31 = .ok (.iconst 0, 1) := by decide +kernel
theorem zd_XReader_numbers_32 : decode zb_XReader_numbers 32 = .ok (.istore 9, 2) := by decide +kernel
theorem zd_XReader_numbers_34 : decode zb_XReader_numbers 34 = .ok (.iload 7, 2) := by decide +kernel
theorem zd_XReader_numbers_36 : decode zb_XReader_numbers 36 = .ok (.ifCond .eq 59, 3) := by decide +kernel
theorem zd_XReader_numbers_39 : decode zb_XReader_numbers 39 = .ok (.iload 9, 2) := by decide +kernel
theorem zd_XReader_numbers_41 : decode zb_XReader_numbers 41 = .ok (.iload_n 2, 1) := by decide +kernel
theorem zd_XReader_numbers_42 : decode zb_XReader_numbers 42 = .ok (.if_icmp .ge 53, 3) := by decide +kernel
theorem zd_XReader_numbers_45 : decode zb_XReader_numbers 45 = .ok (.aload_n 0, 1) := by decide +kernel
theorem zd_XReader_numbers_46 : decode zb_XReader_numbers 46 = .ok (.getfield 9, 3) := by decide +kernel
theorem zd_XReader_numbers_49 : decode zb_XReader_numbers 49 = .ok (.iload 9, 2) := by decide +kernel
theorem zd_XReader_numbers_51 : decode zb_XReader_numbers 51 = .ok (.aload_n 0, 1) := by decide +kernel
theorem zd_XReader_numbers_52 : decode zb_XReader_numbers 52 = .ok (.iload 8, 2) := by decide +kernel
theorem zd_XReader_numbers_54 : decode zb_XReader_numbers 54 = .ok (.iload 5, 2) := by decide +kernel
theorem zd_XReader_numbers_56 : decode zb_XReader_numbers 56 = .ok (.invokevirtual 278, 3) := by decide +kernel
theorem zd_XReader_numbers_59 : decode zb_XReader_numbers 59 = .ok (.iastore, 1) := by decide +kernel
theorem zd_XReader_numbers_60 : decode zb_XReader_numbers 60 = .ok (.iload 6, 2) := by decide +kernel
theorem zd_XReader_numbers_62 : decode zb_XReader_numbers 62 = .ok (.ifCond .eq 15, 3) := by decide +kernel
theorem zd_XReader_numbers_65 : decode zb_XReader_numbers 65 = .ok (.aload_n 0, 1) := by decide +kernel
theorem zd_XReader_numbers_66 : decode zb_XReader_numbers 66 = .ok (.getfield 9, 3) := by decide +kernel
theorem zd_XReader_numbers_69 : decode zb_XReader_numbers 69 = .ok (.iload 9, 2) := by decide +kernel
theorem zd_XReader_numbers_71 : decode zb_XReader_numbers 71 = .ok (.iaload, 1) := by decide +kernel
theorem zd_XReader_numbers_72 : decode zb_XReader_numbers 72 = .ok (.iconst 1, 1) := by decide +kernel
theorem zd_XReader_numbers_73 : decode zb_XReader_numbers 73 = .ok (.iadd, 1) := by decide +kernel
theorem zd_XReader_numbers_74 : decode zb_XReader_numbers 74 = .ok (.goto 5, 3) := by decide +kernel
theorem zd_XReader_numbers_77 : decode zb_XReader_numbers 77 = .ok (.iload 4, 2) := by decide +kernel
theorem zd_XReader_numbers_79 : decode zb_XReader_numbers 79 = .ok (.istore 8, 2) := by decide +kernel
theorem zd_XReader_numbers_81 : decode zb_XReader_numbers 81 = .ok (.iinc 9 1, 3) := by decide +kernel
theorem zd_XReader_numbers_84 : decode zb_XReader_numbers 84 = .ok (.aload_n 0, 1) := by decide +kernel
theorem zd_XReader_numbers_85 : decode zb_XReader_numbers 85 = .ok (.bipush 44, 2) := by decide +kernel
theorem zd_XReader_numbers_87 : decode zb_XReader_numbers 87 = .ok (.invokevirtual 74, 3) := by decide +kernel
theorem zd_XReader_numbers_90 : decode zb_XReader_numbers 90 = .ok (.istore 7, 2) := by decide +kernel
theorem zd_XReader_numbers_92 : decode zb_XReader_numbers 92 = .ok (.goto (-58), 3) := by decide +kernel
theorem zd_XReader_numbers_95 : decode zb_XReader_numbers 95 = .ok (.iload 7, 2) := by decide +kernel
theorem zd_XReader_numbers_97 : decode zb_XReader_numbers 97 = .ok (.ifCond .eq 23, 3) := by decide +kernel
theorem zd_XReader_numbers_100 : decode zb_XReader_numbers 100 = .ok (.aload_n 0, 1) := by decide +kernel
theorem zd_XReader_numbers_101 : decode zb_XReader_numbers 101 = .ok (.ldc_w 282, 3) := by decide +kernel
theorem zd_XReader_numbers_104 : decode zb_XReader_numbers 104 = .ok (.ldc_w 283, 3) := by decide +kernel
theorem zd_XReader_numbers_107 : decode zb_XReader_numbers 107 = .ok (.invokevirtual 278, 3) := by decide +kernel
theorem zd_XReader_numbers_110 : decode zb_XReader_numbers 110 = .ok (.pop, 1) := by decide +kernel
theorem zd_XReader_numbers_111 : decode zb_XReader_numbers 111 = .ok (.aload_n 0, 1) := by decide +kernel
theorem zd_XReader_numbers_112 : decode zb_XReader_numbers 112 = .ok (.iconst 3, 1) := by decide +kernel
theorem zd_XReader_numbers_113 : decode zb_XReader_numbers 113 = .ok (.aload_n 0, 1) := by decide +kernel
theorem zd_XReader_numbers_114 : decode zb_XReader_numbers 114 = .ok (.getfield 146, 3) := by decide +kernel
theorem zd_XReader_numbers_117 : decode zb_XReader_numbers 117 = .ok (.invokevirtual 77, 3) := by decide +kernel
theorem zd_XReader_numbers_120 : decode zb_XReader_numbers 120 = .ok (.aload_n 0, 1) := by decide +kernel
theorem zd_XReader_numbers_121 : decode zb_XReader_numbers 121 = .ok (.bipush 93, 2) := by decide +kernel
theorem zd_XReader_numbers_123 : decode zb_XReader_numbers 123 = .ok (.invokevirtual 49, 3) := by decide +kernel
theorem zd_XReader_numbers_126 : decode zb_XReader_numbers 126 = .ok (.ifCond .eq 24, 3) := by decide +kernel
theorem zd_XReader_numbers_129 : decode zb_XReader_numbers 129 = .ok (.iload 9, 2) := by decide +kernel
theorem zd_XReader_numbers_131 : decode zb_XReader_numbers 131 = .ok (.ifCond .eq 10, 3) := by decide +kernel
theorem zd_XReader_numbers_134 : decode zb_XReader_numbers 134 = .ok (.iload 9, 2) := by decide +kernel
theorem zd_XReader_numbers_136 : decode zb_XReader_numbers 136 = .ok (.iload_n 3, 1) := by decide +kernel
theorem zd_XReader_numbers_137 : decode zb_XReader_numbers 137 = .ok (.irem, 1) := by decide +kernel
theorem zd_XReader_numbers_138 : decode zb_XReader_numbers 138 = .ok (.ifCond .eq 12, 3) := by decide +kernel
theorem zd_XReader_numbers_141 : decode zb_XReader_numbers 141 = .ok (.aload_n 0, 1) := by decide +kernel
theorem zd_XReader_numbers_142 : decode zb_XReader_numbers 142 = .ok (.iconst 3, 1) := by decide +kernel
theorem zd_XReader_numbers_143 : decode zb_XReader_numbers 143 = .ok (.aload_n 0, 1) := by decide +kernel
theorem zd_XReader_numbers_144 : decode zb_XReader_numbers 144 = .ok (.getfield 27, 3) := by decide +kernel
theorem zd_XReader_numbers_147 : decode zb_XReader_numbers 147 = .ok (.invokevirtual 77, 3) := by decide +kernel
theorem zd_XReader_numbers_150 : decode zb_XReader_numbers 150 = .ok (.aload_n 0, 1) := by decide +kernel
theorem zd_XReader_numbers_151 : decode zb_XReader_numbers 151 = .ok (.bipush 93, 2) := by decide +kernel
theorem zd_XReader_numbers_153 : decode zb_XReader_numbers 153 = .ok (.invokevirtual 45, 3) := by decide +kernel
theorem zd_XReader_numbers_156 : decode zb_XReader_numbers 156 = .ok (.iload 9, 2) := by decide +kernel
theorem zd_XReader_numbers_158 : decode zb_XReader_numbers 158 = .ok (.ireturn, 1) := by decide +kernel
theorem zw_1197 : (Jvm.Cond.methodLink "OrreryBox$Reader" (74 : Nat) ({ cls := "OrreryBox$Reader", name := "takes", desc := "(C)Z" } : Jvm.MethodName)) ∈ gw := gw_t 1197 (by decide +kernel) rfl
theorem zw_1199 : (Jvm.Cond.instanceMethod ({ cls := "OrreryBox$Reader", name := "takes", desc := "(C)Z" } : Jvm.MethodName)) ∈ gw := gw_t 1199 (by decide +kernel) rfl
theorem zv_57 : (Jvm.Cond.selects "OrreryBox$Reader" (⟨"OrreryBox$Reader", "takes", "(C)Z"⟩ : MethodName) ⟨"OrreryBox$Reader", "takes", "(C)Z"⟩) ∈ gw := gw_s 57 (by decide +kernel) rfl
theorem zs_XReader_74 : zwV "OrreryBox$Reader" 74 "OrreryBox$Reader" zy_XReader_takes zb_XReader_takes 3 (some .boolean) := ⟨zw_1197, zw_1199, zv_57, zw_2, zc_XReader_takes⟩
def L_XReader_numbers_34 (sh : zSh) (fuel : Nat) (v0 : Nat) (v2 : Int32) (v3 : Int32) (v4 : Int32) (v5 : Int32) (v6 : Int32) (v7 : Int32) (v8 : Int32) (v9 : Int32) (mm : zMem) : Option (Nat × Int32 × Int32 × Int32 × Int32 × Int32 × Int32 × Int32 × Int32 × zMem) := match fuel with
  | 0 => none
  | fu + 1 => (if v7 = 0 then some (v0, v2, v3, v4, v5, v6, v7, v8, v9, mm) else (if v2 ≤ v9 then some (v0, v2, v3, v4, v5, v6, v7, v8, v9, mm) else zoS (sh v0) 7 (fun le14 => Option.bind (mm.2.2 v0 2) (fun a15 => zoS (sh v0) 7 (fun le17 => Option.bind (F_XReader_needNumber sh mm v0 v8 v5) (fun p18 => zoS (sh a15) 100 (fun le20 => if (v9 : Int32) < 0 ∨ le20 ≤ (v9 : Int32).toNatClampNeg then none else zoL (mI (p18.2) a15 (v9 : Int32).toNatClampNeg (p18.1)) (fun mm22 => (if v6 = 0 then zoS (sh v0) 7 (fun le25 => Option.bind (F_XReader_takes sh mm22 v0 44) (fun p26 => L_XReader_numbers_34 sh fu v0 v2 v3 v4 v5 v6 (p26.1) v4 (v9 + 1) (p26.2))) else zoS (sh v0) 7 (fun le28 => Option.bind (mm22.2.2 v0 2) (fun a29 => zoS (sh a29) 100 (fun le31 => if (v9 : Int32) < 0 ∨ le31 ≤ (v9 : Int32).toNatClampNeg then none else zoL ((mm22.1 a29 (v9 : Int32).toNatClampNeg) + 1) (fun x33 => zoS (sh v0) 7 (fun le35 => Option.bind (F_XReader_takes sh mm22 v0 44) (fun p36 => L_XReader_numbers_34 sh fu v0 v2 v3 v4 v5 v6 (p36.1) x33 (v9 + 1) (p36.2))))))))))))))))
set_option maxHeartbeats 4000000 in
set_option maxRecDepth 100000 in
theorem lp_XReader_numbers_34 {p : Program} {l : Launch} {e : Env} {s : State} {m : MethodId} {args : Array Value} {below : List Frame} {meth : Method} {c : Code} {D : va_G} {tA : Nat → ClassId} {b n : Nat} {post : Option Value → zV → Nat → Prop} {sh : zSh} (F : zF p s m args meth c zb_XReader_numbers 10 "OrreryBox$Reader" D tA b) : ∀ (fuel : Nat) (v0 : Nat) (v2 : Int32) (v3 : Int32) (v4 : Int32) (v5 : Int32) (v6 : Int32) (v7 : Int32) (v8 : Int32) (v9 : Int32) (mm : zMem) (r : Nat × Int32 × Int32 × Int32 × Int32 × Int32 × Int32 × Int32 × Int32 × zMem), L_XReader_numbers_34 sh fuel v0 v2 v3 v4 v5 v6 v7 v8 v9 mm = some r → (Z p l e { frames := 6, cells := 0, slots := 0, locals := 129 } s m args below meth c D b 10 (MQ below (zQ D b post) args s 0 0 (fun q => b ≤ q)) (zW tA b sh r.2.2.2.2.2.2.2.2.2) n 0 0 95 [(0, .ref (b + (r.1))), (2, .int (r.2.1)), (3, .int (r.2.2.1)), (4, .int (r.2.2.2.1)), (5, .int (r.2.2.2.2.1)), (6, .int (r.2.2.2.2.2.1)), (7, .int (r.2.2.2.2.2.2.1)), (8, .int (r.2.2.2.2.2.2.2.1)), (9, .int (r.2.2.2.2.2.2.2.2.1))] []) → Z p l e { frames := 6, cells := 0, slots := 0, locals := 129 } s m args below meth c D b 10 (MQ below (zQ D b post) args s 0 0 (fun q => b ≤ q)) (zW tA b sh mm) n 0 0 34 [(0, .ref (b + v0)), (2, .int v2), (3, .int v3), (4, .int v4), (5, .int v5), (6, .int v6), (7, .int v7), (8, .int v8), (9, .int v9)] [] := by
  intro fuel
  induction fuel with
  | zero =>
    intro v0 v2 v3 v4 v5 v6 v7 v8 v9 mm r h
    cases h
  | succ fu ih =>
    intro v0 v2 v3 v4 v5 v6 v7 v8 v9 mm r h hx0
    rw [L_XReader_numbers_34] at h
    refine zr_iload F zd_XReader_numbers_34 rfl ?_
    refine zr_if_eq F 95 zd_XReader_numbers_36 (by decide) (fun hb11 => ?_) (fun hb11 => ?_)
    ·
      replace h := (if_pos hb11).symm.trans h
      obtain rfl := Option.some.inj h
      refine zr_loc (L' := [(0, .ref (b + v0)), (2, .int v2), (3, .int v3), (4, .int v4), (5, .int v5), (6, .int v6), (7, .int v7), (8, .int v8), (9, .int v9)]) ⟨rfl, rfl, rfl, rfl, rfl, rfl, rfl, rfl, rfl, trivial⟩ ?_
      exact hx0 
    ·
      replace h := (if_neg hb11).symm.trans h
      refine zr_iload F zd_XReader_numbers_39 rfl ?_
      refine zr_iload_n F zd_XReader_numbers_41 rfl ?_
      refine zr_icmp_ge F 95 zd_XReader_numbers_42 (by decide) (fun hb12 => ?_) (fun hb12 => ?_)
      ·
        replace h := (if_pos hb12).symm.trans h
        obtain rfl := Option.some.inj h
        refine zr_loc (L' := [(0, .ref (b + v0)), (2, .int v2), (3, .int v3), (4, .int v4), (5, .int v5), (6, .int v6), (7, .int v7), (8, .int v8), (9, .int v9)]) ⟨rfl, rfl, rfl, rfl, rfl, rfl, rfl, rfl, rfl, trivial⟩ ?_
        exact hx0 
      ·
        replace h := (if_neg hb12).symm.trans h
        refine zr_aload_n F zd_XReader_numbers_45 rfl ?_
        obtain ⟨le14, hs13, h⟩ := zoS_s h
        obtain ⟨a15, ea15, h⟩ := zoB_s h
        refine zr_get F 7 2 zd_XReader_numbers_46 (zW_o hs13 (by decide)) rfl (by decide) zw_50 rfl (by rfl) ?_
        refine zr_tor ea15 ?_
        refine zr_pcn 49 rfl ?_
        refine zr_iload F zd_XReader_numbers_49 rfl ?_
        refine zr_aload_n F zd_XReader_numbers_51 rfl ?_
        refine zr_iload F zd_XReader_numbers_52 rfl ?_
        refine zr_iload F zd_XReader_numbers_54 rfl ?_
        obtain ⟨le17, hs16, h⟩ := zoS_s h
        obtain ⟨p18, ep18, h⟩ := zoB_s h
        refine zr_callV1 F (k_XReader_needNumber l D tA b sh _ ep18) zd_XReader_numbers_56 (zW_o hs16 (by decide)) rfl zs_XReader_278 rfl zq_XReader_needNumber rfl rfl ⟨(Nat.le_of_ble_eq_true rfl), (Nat.le_of_ble_eq_true rfl)⟩ (Nat.le_of_ble_eq_true rfl) ⟨(Nat.le_of_ble_eq_true rfl), (Nat.le_of_ble_eq_true rfl)⟩ ?_
        obtain ⟨le20, hs19, h⟩ := zoS_s h
        obtain ⟨hi21, h⟩ := zoI_s h
        refine zr_iast F zd_XReader_numbers_59 (zW_a0 hs19) hi21 ?_
        obtain ⟨mm22, emm22, h⟩ := zoL_s h
        refine zr_norm (zW tA b sh mm22) _ (by rw [emm22]; exact zW_s0 hs19) rfl ?_
        refine zr_iload F zd_XReader_numbers_60 rfl ?_
        refine zr_if_eq F 77 zd_XReader_numbers_62 (by decide) (fun hb23 => ?_) (fun hb23 => ?_)
        ·
          replace h := (if_pos hb23).symm.trans h
          refine zr_pcn 77 rfl ?_
          refine zr_iload F zd_XReader_numbers_77 rfl ?_
          refine zr_istore F zd_XReader_numbers_79 (by decide) ?_
          refine zr_iinc (v := (v9 + 1)) F zd_XReader_numbers_81 rfl rfl (by decide) ?_
          refine zr_aload_n F zd_XReader_numbers_84 rfl ?_
          refine zr_bipushv (v := 44) F zd_XReader_numbers_85 (by decide) ?_
          obtain ⟨le25, hs24, h⟩ := zoS_s h
          obtain ⟨p26, ep26, h⟩ := zoB_s h
          refine zr_callV1 F (k_XReader_takes l D tA b sh _ ep26) zd_XReader_numbers_87 (zW_o hs24 (by decide)) rfl zs_XReader_74 rfl zq_XReader_takes rfl rfl ⟨(Nat.le_of_ble_eq_true rfl), (Nat.le_of_ble_eq_true rfl)⟩ (Nat.le_of_ble_eq_true rfl) ⟨(Nat.le_of_ble_eq_true rfl), (Nat.le_of_ble_eq_true rfl)⟩ ?_
          refine zr_istore F zd_XReader_numbers_90 (by decide) ?_
          refine zr_loc (L' := [(0, .ref (b + v0)), (2, .int v2), (3, .int v3), (4, .int v4), (5, .int v5), (6, .int v6), (7, .int (p26.1)), (8, .int v4), (9, .int (v9 + 1))]) ⟨rfl, rfl, rfl, rfl, rfl, rfl, rfl, rfl, rfl, trivial⟩ ?_
          refine zr_goto F 34 zd_XReader_numbers_92 (by decide) ?_
          refine zr_loc (L' := [(0, .ref (b + v0)), (2, .int v2), (3, .int v3), (4, .int v4), (5, .int v5), (6, .int v6), (7, .int (p26.1)), (8, .int v4), (9, .int (v9 + 1))]) ⟨rfl, rfl, rfl, rfl, rfl, rfl, rfl, rfl, rfl, trivial⟩ ?_
          exact ih _ _ _ _ _ _ _ _ _ _ _ h hx0
        ·
          replace h := (if_neg hb23).symm.trans h
          refine zr_pcn 65 rfl ?_
          refine zr_aload_n F zd_XReader_numbers_65 rfl ?_
          obtain ⟨le28, hs27, h⟩ := zoS_s h
          obtain ⟨a29, ea29, h⟩ := zoB_s h
          refine zr_get F 7 2 zd_XReader_numbers_66 (zW_o hs27 (by decide)) rfl (by decide) zw_50 rfl (by rfl) ?_
          refine zr_tor ea29 ?_
          refine zr_iload F zd_XReader_numbers_69 rfl ?_
          obtain ⟨le31, hs30, h⟩ := zoS_s h
          obtain ⟨hi32, h⟩ := zoI_s h
          refine zr_iald F zd_XReader_numbers_71 (zW_a0 hs30) hi32 ?_
          refine zr_iconstv (v := 1) F zd_XReader_numbers_72 (by decide) ?_
          refine zr_iadd F zd_XReader_numbers_73 ?_
          refine zr_goto F 79 zd_XReader_numbers_74 (by decide) ?_
          obtain ⟨x33, ex33, h⟩ := zoL_s h
          rw [← ex33]
          refine zr_istore F zd_XReader_numbers_79 (by decide) ?_
          refine zr_pcn 81 rfl ?_
          refine zr_iinc (v := (v9 + 1)) F zd_XReader_numbers_81 rfl rfl (by decide) ?_
          refine zr_aload_n F zd_XReader_numbers_84 rfl ?_
          refine zr_bipushv (v := 44) F zd_XReader_numbers_85 (by decide) ?_
          obtain ⟨le35, hs34, h⟩ := zoS_s h
          obtain ⟨p36, ep36, h⟩ := zoB_s h
          refine zr_callV1 F (k_XReader_takes l D tA b sh _ ep36) zd_XReader_numbers_87 (zW_o hs34 (by decide)) rfl zs_XReader_74 rfl zq_XReader_takes rfl rfl ⟨(Nat.le_of_ble_eq_true rfl), (Nat.le_of_ble_eq_true rfl)⟩ (Nat.le_of_ble_eq_true rfl) ⟨(Nat.le_of_ble_eq_true rfl), (Nat.le_of_ble_eq_true rfl)⟩ ?_
          refine zr_istore F zd_XReader_numbers_90 (by decide) ?_
          refine zr_loc (L' := [(0, .ref (b + v0)), (2, .int v2), (3, .int v3), (4, .int v4), (5, .int v5), (6, .int v6), (7, .int (p36.1)), (8, .int x33), (9, .int (v9 + 1))]) ⟨rfl, rfl, rfl, rfl, rfl, rfl, rfl, rfl, rfl, trivial⟩ ?_
          refine zr_goto F 34 zd_XReader_numbers_92 (by decide) ?_
          refine zr_loc (L' := [(0, .ref (b + v0)), (2, .int v2), (3, .int v3), (4, .int v4), (5, .int v5), (6, .int v6), (7, .int (p36.1)), (8, .int x33), (9, .int (v9 + 1))]) ⟨rfl, rfl, rfl, rfl, rfl, rfl, rfl, rfl, rfl, trivial⟩ ?_
          exact ih _ _ _ _ _ _ _ _ _ _ _ h hx0
theorem zw_1201 : (Jvm.Cond.constant "OrreryBox$Reader" (282 : Nat) (-100000000 : Int32)) ∈ gw := gw_t 1201 (by decide +kernel) rfl
def F_XReader_numbers (sh : zSh) (mm : zMem) (o : Nat) (x0_ : Nat) (x1_ : Int32) (x2_ : Int32) (x3_ : Int32) (x4_ : Int32) (x5_ : Int32) : Option (Int32 × zMem) := zoS (sh o) 7 (fun le2 => Option.bind (F_XReader_needName sh mm o x0_) (fun p3 => zoS (sh o) 7 (fun le5 => Option.bind (F_XReader_need sh p3 o 91) (fun p6 => zoS (sh o) 7 (fun le8 => Option.bind (F_XReader_sees sh p6 o 93) (fun p9 => (if p9.1 = 0 then Option.bind (L_XReader_numbers_34 sh zfuel o x1_ x2_ x3_ x4_ x5_ 1 x3_ 0 (p9.2)) (fun q70 => (if q70.2.2.2.2.2.2.1 = 0 then zoS (sh (q70.1)) 7 (fun le73 => Option.bind (F_XReader_sees sh (q70.2.2.2.2.2.2.2.2.2) (q70.1) 93) (fun p74 => (if p74.1 = 0 then zoS (sh (q70.1)) 7 (fun le77 => Option.bind (F_XReader_need sh (p74.2) (q70.1) 93) (fun p78 => some (q70.2.2.2.2.2.2.2.2.1, p78))) else (if q70.2.2.2.2.2.2.2.2.1 = 0 then zoS (sh (q70.1)) 7 (fun le81 => zoS (sh (q70.1)) 7 (fun le83 => none)) else (if q70.2.2.1 = 0 then none else (if (q70.2.2.2.2.2.2.2.2.1 - q70.2.2.2.2.2.2.2.2.1 / q70.2.2.1 * q70.2.2.1) = 0 then zoS (sh (q70.1)) 7 (fun le88 => Option.bind (F_XReader_need sh (p74.2) (q70.1) 93) (fun p89 => some (q70.2.2.2.2.2.2.2.2.1, p89))) else zoS (sh (q70.1)) 7 (fun le91 => zoS (sh (q70.1)) 7 (fun le93 => none)))))))) else zoS (sh (q70.1)) 7 (fun le96 => Option.bind (F_XReader_needNumber sh (q70.2.2.2.2.2.2.2.2.2) (q70.1) (-100000000) 100000000) (fun p97 => zoS (sh (q70.1)) 7 (fun le99 => zoS (sh (q70.1)) 7 (fun le101 => none)))))) else Option.bind (L_XReader_numbers_34 sh zfuel o x1_ x2_ x3_ x4_ x5_ 0 x3_ 0 (p9.2)) (fun q37 => (if q37.2.2.2.2.2.2.1 = 0 then zoS (sh (q37.1)) 7 (fun le40 => Option.bind (F_XReader_sees sh (q37.2.2.2.2.2.2.2.2.2) (q37.1) 93) (fun p41 => (if p41.1 = 0 then zoS (sh (q37.1)) 7 (fun le44 => Option.bind (F_XReader_need sh (p41.2) (q37.1) 93) (fun p45 => some (q37.2.2.2.2.2.2.2.2.1, p45))) else (if q37.2.2.2.2.2.2.2.2.1 = 0 then zoS (sh (q37.1)) 7 (fun le48 => zoS (sh (q37.1)) 7 (fun le50 => none)) else (if q37.2.2.1 = 0 then none else (if (q37.2.2.2.2.2.2.2.2.1 - q37.2.2.2.2.2.2.2.2.1 / q37.2.2.1 * q37.2.2.1) = 0 then zoS (sh (q37.1)) 7 (fun le55 => Option.bind (F_XReader_need sh (p41.2) (q37.1) 93) (fun p56 => some (q37.2.2.2.2.2.2.2.2.1, p56))) else zoS (sh (q37.1)) 7 (fun le58 => zoS (sh (q37.1)) 7 (fun le60 => none)))))))) else zoS (sh (q37.1)) 7 (fun le63 => Option.bind (F_XReader_needNumber sh (q37.2.2.2.2.2.2.2.2.2) (q37.1) (-100000000) 100000000) (fun p64 => zoS (sh (q37.1)) 7 (fun le66 => zoS (sh (q37.1)) 7 (fun le68 => none)))))))))))))
set_option maxHeartbeats 4000000 in
set_option maxRecDepth 100000 in
theorem k_XReader_numbers (l : Launch) (D : va_G) (tA : Nat → ClassId) (b : Nat) (sh : zSh) (n : Nat) {mm : zMem} {o : Nat} {x0_ : Nat} {x1_ : Int32} {x2_ : Int32} {x3_ : Int32} {x4_ : Int32} {x5_ : Int32} {r : (Int32 × zMem)} (h : F_XReader_numbers sh mm o x0_ x1_ x2_ x3_ x4_ x5_ = some r) : zM l D tA b zy_XReader_numbers zb_XReader_numbers 10 (some .int) 6 129 0 0 [.ref (b + o), .ref (D.2 1000 x0_), .int x1_, .int x2_, .int x3_, .int x4_, .int x5_] (zW tA b sh mm) n (zE (some (.int (r.1))) (zW tA b sh r.2) n) := by
  unfold F_XReader_numbers at h
  refine zM_of (own := "OrreryBox$Reader") (plainFor_of_name (by decide)) rfl (Nat.le_of_ble_eq_true rfl) (fun p e s m below meth c F hr hin hH => ?_)
  refine zr_aload_n F zd_XReader_numbers_0 rfl ?_
  refine zr_aload_n F zd_XReader_numbers_1 rfl ?_
  obtain ⟨le2, hs1, h⟩ := zoS_s h
  obtain ⟨p3, ep3, h⟩ := zoB_s h
  refine zr_callV0 F (k_XReader_needName l D tA b sh _ ep3) zd_XReader_numbers_2 (zW_o hs1 (by decide)) rfl zs_XReader_61 rfl zq_XReader_needName rfl rfl ⟨(Nat.le_of_ble_eq_true rfl), (Nat.le_of_ble_eq_true rfl)⟩ (Nat.le_of_ble_eq_true rfl) ⟨(Nat.le_of_ble_eq_true rfl), (Nat.le_of_ble_eq_true rfl)⟩ ?_
  refine zr_aload_n F zd_XReader_numbers_5 rfl ?_
  refine zr_bipushv (v := 91) F zd_XReader_numbers_6 (by decide) ?_
  obtain ⟨le5, hs4, h⟩ := zoS_s h
  obtain ⟨p6, ep6, h⟩ := zoB_s h
  refine zr_callV0 F (k_XReader_need l D tA b sh _ ep6) zd_XReader_numbers_8 (zW_o hs4 (by decide)) rfl zs_XReader_45 rfl zq_XReader_need rfl rfl ⟨(Nat.le_of_ble_eq_true rfl), (Nat.le_of_ble_eq_true rfl)⟩ (Nat.le_of_ble_eq_true rfl) ⟨(Nat.le_of_ble_eq_true rfl), (Nat.le_of_ble_eq_true rfl)⟩ ?_
  refine zr_aload_n F zd_XReader_numbers_11 rfl ?_
  refine zr_pcn 12 rfl ?_
  refine zr_bipushv (v := 93) F zd_XReader_numbers_12 (by decide) ?_
  obtain ⟨le8, hs7, h⟩ := zoS_s h
  obtain ⟨p9, ep9, h⟩ := zoB_s h
  refine zr_callV1 F (k_XReader_sees l D tA b sh _ ep9) zd_XReader_numbers_14 (zW_o hs7 (by decide)) rfl zs_XReader_49 rfl zq_XReader_sees rfl rfl ⟨(Nat.le_of_ble_eq_true rfl), (Nat.le_of_ble_eq_true rfl)⟩ (Nat.le_of_ble_eq_true rfl) ⟨(Nat.le_of_ble_eq_true rfl), (Nat.le_of_ble_eq_true rfl)⟩ ?_
  refine zr_if_ne F 24 zd_XReader_numbers_17 (by decide) (fun hb10 => ?_) (fun hb10 => ?_)
  ·
    replace h := (if_neg hb10).symm.trans h
    refine zr_iconstv (v := 0) F zd_XReader_numbers_24 (by decide) ?_
    refine zr_istore F zd_XReader_numbers_25 (by decide) ?_
    refine zr_iload F zd_XReader_numbers_27 rfl ?_
    refine zr_istore F zd_XReader_numbers_29 (by decide) ?_
    refine zr_iconstv (v := 0) F zd_XReader_numbers_31 (by decide) ?_
    refine zr_pcn 32 rfl ?_
    refine zr_istore F zd_XReader_numbers_32 (by decide) ?_
    refine zr_loc (L' := [(0, .ref (b + o)), (2, .int x1_), (3, .int x2_), (4, .int x3_), (5, .int x4_), (6, .int x5_), (7, .int 0), (8, .int x3_), (9, .int 0)]) ⟨rfl, rfl, rfl, rfl, rfl, rfl, rfl, rfl, rfl, trivial⟩ ?_
    obtain ⟨q37, eq37, h⟩ := zoB_s h
    refine zr_loc (L' := [(0, .ref (b + o)), (2, .int x1_), (3, .int x2_), (4, .int x3_), (5, .int x4_), (6, .int x5_), (7, .int 0), (8, .int x3_), (9, .int 0)]) ⟨rfl, rfl, rfl, rfl, rfl, rfl, rfl, rfl, rfl, trivial⟩ ?_
    refine lp_XReader_numbers_34 F _ _ _ _ _ _ _ _ _ _ _ _ eq37 ?_
    ·
      refine zr_iload F zd_XReader_numbers_95 rfl ?_
      refine zr_if_eq F 120 zd_XReader_numbers_97 (by decide) (fun hb38 => ?_) (fun hb38 => ?_)
      ·
        replace h := (if_pos hb38).symm.trans h
        refine zr_pcn 120 rfl ?_
        refine zr_aload_n F zd_XReader_numbers_120 rfl ?_
        refine zr_bipushv (v := 93) F zd_XReader_numbers_121 (by decide) ?_
        obtain ⟨le40, hs39, h⟩ := zoS_s h
        obtain ⟨p41, ep41, h⟩ := zoB_s h
        refine zr_callV1 F (k_XReader_sees l D tA b sh _ ep41) zd_XReader_numbers_123 (zW_o hs39 (by decide)) rfl zs_XReader_49 rfl zq_XReader_sees rfl rfl ⟨(Nat.le_of_ble_eq_true rfl), (Nat.le_of_ble_eq_true rfl)⟩ (Nat.le_of_ble_eq_true rfl) ⟨(Nat.le_of_ble_eq_true rfl), (Nat.le_of_ble_eq_true rfl)⟩ ?_
        refine zr_if_eq F 150 zd_XReader_numbers_126 (by decide) (fun hb42 => ?_) (fun hb42 => ?_)
        ·
          replace h := (if_pos hb42).symm.trans h
          refine zr_aload_n F zd_XReader_numbers_150 rfl ?_
          refine zr_bipushv (v := 93) F zd_XReader_numbers_151 (by decide) ?_
          obtain ⟨le44, hs43, h⟩ := zoS_s h
          obtain ⟨p45, ep45, h⟩ := zoB_s h
          refine zr_callV0 F (k_XReader_need l D tA b sh _ ep45) zd_XReader_numbers_153 (zW_o hs43 (by decide)) rfl zs_XReader_45 rfl zq_XReader_need rfl rfl ⟨(Nat.le_of_ble_eq_true rfl), (Nat.le_of_ble_eq_true rfl)⟩ (Nat.le_of_ble_eq_true rfl) ⟨(Nat.le_of_ble_eq_true rfl), (Nat.le_of_ble_eq_true rfl)⟩ ?_
          refine zr_iload F zd_XReader_numbers_156 rfl ?_
          refine zr_pcn 158 rfl ?_
          obtain rfl := Option.some.inj h
          exact zr_iret F hr zd_XReader_numbers_158 (Nat.le_of_ble_eq_true rfl) (Nat.le_of_ble_eq_true rfl) ⟨rfl, rfl, rfl⟩
        ·
          replace h := (if_neg hb42).symm.trans h
          refine zr_iload F zd_XReader_numbers_129 rfl ?_
          refine zr_if_eq F 141 zd_XReader_numbers_131 (by decide) (fun hb46 => ?_) (fun hb46 => ?_)
          ·
            replace h := (if_pos hb46).symm.trans h
            refine zr_aload_n F zd_XReader_numbers_141 rfl ?_
            refine zr_iconstv (v := 3) F zd_XReader_numbers_142 (by decide) ?_
            refine zr_aload_n F zd_XReader_numbers_143 rfl ?_
            obtain ⟨le48, hs47, h⟩ := zoS_s h
            refine zr_get F 7 5 zd_XReader_numbers_144 (zW_o hs47 (by decide)) rfl (by decide) zw_53 rfl (by rfl) ?_
            obtain ⟨le50, hs49, h⟩ := zoS_s h
            cases h
          ·
            replace h := (if_neg hb46).symm.trans h
            refine zr_pcn 134 rfl ?_
            refine zr_iload F zd_XReader_numbers_134 rfl ?_
            refine zr_iload_n F zd_XReader_numbers_136 rfl ?_
            obtain ⟨hn52, h⟩ := zoI_s h
            refine zr_irem F zd_XReader_numbers_137 hn52 ?_
            refine zr_if_eq F 150 zd_XReader_numbers_138 (by decide) (fun hb53 => ?_) (fun hb53 => ?_)
            ·
              replace h := (if_pos hb53).symm.trans h
              refine zr_aload_n F zd_XReader_numbers_150 rfl ?_
              refine zr_bipushv (v := 93) F zd_XReader_numbers_151 (by decide) ?_
              obtain ⟨le55, hs54, h⟩ := zoS_s h
              obtain ⟨p56, ep56, h⟩ := zoB_s h
              refine zr_callV0 F (k_XReader_need l D tA b sh _ ep56) zd_XReader_numbers_153 (zW_o hs54 (by decide)) rfl zs_XReader_45 rfl zq_XReader_need rfl rfl ⟨(Nat.le_of_ble_eq_true rfl), (Nat.le_of_ble_eq_true rfl)⟩ (Nat.le_of_ble_eq_true rfl) ⟨(Nat.le_of_ble_eq_true rfl), (Nat.le_of_ble_eq_true rfl)⟩ ?_
              refine zr_iload F zd_XReader_numbers_156 rfl ?_
              refine zr_pcn 158 rfl ?_
              obtain rfl := Option.some.inj h
              exact zr_iret F hr zd_XReader_numbers_158 (Nat.le_of_ble_eq_true rfl) (Nat.le_of_ble_eq_true rfl) ⟨rfl, rfl, rfl⟩
            ·
              replace h := (if_neg hb53).symm.trans h
              refine zr_aload_n F zd_XReader_numbers_141 rfl ?_
              refine zr_iconstv (v := 3) F zd_XReader_numbers_142 (by decide) ?_
              refine zr_aload_n F zd_XReader_numbers_143 rfl ?_
              obtain ⟨le58, hs57, h⟩ := zoS_s h
              refine zr_get F 7 5 zd_XReader_numbers_144 (zW_o hs57 (by decide)) rfl (by decide) zw_53 rfl (by rfl) ?_
              obtain ⟨le60, hs59, h⟩ := zoS_s h
              cases h
      ·
        replace h := (if_neg hb38).symm.trans h
        refine zr_aload_n F zd_XReader_numbers_100 rfl ?_
        refine zr_ldcw F zd_XReader_numbers_101 zw_1201 ?_
        refine zr_pcn 104 rfl ?_
        refine zr_ldcw F zd_XReader_numbers_104 zw_1195 ?_
        obtain ⟨le63, hs62, h⟩ := zoS_s h
        obtain ⟨p64, ep64, h⟩ := zoB_s h
        refine zr_callV1 F (k_XReader_needNumber l D tA b sh _ ep64) zd_XReader_numbers_107 (zW_o hs62 (by decide)) rfl zs_XReader_278 rfl zq_XReader_needNumber rfl rfl ⟨(Nat.le_of_ble_eq_true rfl), (Nat.le_of_ble_eq_true rfl)⟩ (Nat.le_of_ble_eq_true rfl) ⟨(Nat.le_of_ble_eq_true rfl), (Nat.le_of_ble_eq_true rfl)⟩ ?_
        refine zr_pop F zd_XReader_numbers_110 rfl ?_
        refine zr_aload_n F zd_XReader_numbers_111 rfl ?_
        refine zr_iconstv (v := 3) F zd_XReader_numbers_112 (by decide) ?_
        refine zr_aload_n F zd_XReader_numbers_113 rfl ?_
        obtain ⟨le66, hs65, h⟩ := zoS_s h
        refine zr_get F 7 6 zd_XReader_numbers_114 (zW_o hs65 (by decide)) rfl (by decide) zw_54 rfl (by rfl) ?_
        obtain ⟨le68, hs67, h⟩ := zoS_s h
        cases h
  ·
    replace h := (if_pos hb10).symm.trans h
    refine zr_pcn 20 rfl ?_
    refine zr_iconstv (v := 1) F zd_XReader_numbers_20 (by decide) ?_
    refine zr_goto F 25 zd_XReader_numbers_21 (by decide) ?_
    refine zr_istore F zd_XReader_numbers_25 (by decide) ?_
    refine zr_iload F zd_XReader_numbers_27 rfl ?_
    refine zr_istore F zd_XReader_numbers_29 (by decide) ?_
    refine zr_iconstv (v := 0) F zd_XReader_numbers_31 (by decide) ?_
    refine zr_istore F zd_XReader_numbers_32 (by decide) ?_
    refine zr_loc (L' := [(0, .ref (b + o)), (2, .int x1_), (3, .int x2_), (4, .int x3_), (5, .int x4_), (6, .int x5_), (7, .int 1), (8, .int x3_), (9, .int 0)]) ⟨rfl, rfl, rfl, rfl, rfl, rfl, rfl, rfl, rfl, trivial⟩ ?_
    obtain ⟨q70, eq70, h⟩ := zoB_s h
    refine zr_loc (L' := [(0, .ref (b + o)), (2, .int x1_), (3, .int x2_), (4, .int x3_), (5, .int x4_), (6, .int x5_), (7, .int 1), (8, .int x3_), (9, .int 0)]) ⟨rfl, rfl, rfl, rfl, rfl, rfl, rfl, rfl, rfl, trivial⟩ ?_
    refine lp_XReader_numbers_34 F _ _ _ _ _ _ _ _ _ _ _ _ eq70 ?_
    ·
      refine zr_iload F zd_XReader_numbers_95 rfl ?_
      refine zr_pcn 97 rfl ?_
      refine zr_if_eq F 120 zd_XReader_numbers_97 (by decide) (fun hb71 => ?_) (fun hb71 => ?_)
      ·
        replace h := (if_pos hb71).symm.trans h
        refine zr_aload_n F zd_XReader_numbers_120 rfl ?_
        refine zr_bipushv (v := 93) F zd_XReader_numbers_121 (by decide) ?_
        obtain ⟨le73, hs72, h⟩ := zoS_s h
        obtain ⟨p74, ep74, h⟩ := zoB_s h
        refine zr_callV1 F (k_XReader_sees l D tA b sh _ ep74) zd_XReader_numbers_123 (zW_o hs72 (by decide)) rfl zs_XReader_49 rfl zq_XReader_sees rfl rfl ⟨(Nat.le_of_ble_eq_true rfl), (Nat.le_of_ble_eq_true rfl)⟩ (Nat.le_of_ble_eq_true rfl) ⟨(Nat.le_of_ble_eq_true rfl), (Nat.le_of_ble_eq_true rfl)⟩ ?_
        refine zr_if_eq F 150 zd_XReader_numbers_126 (by decide) (fun hb75 => ?_) (fun hb75 => ?_)
        ·
          replace h := (if_pos hb75).symm.trans h
          refine zr_aload_n F zd_XReader_numbers_150 rfl ?_
          refine zr_bipushv (v := 93) F zd_XReader_numbers_151 (by decide) ?_
          obtain ⟨le77, hs76, h⟩ := zoS_s h
          obtain ⟨p78, ep78, h⟩ := zoB_s h
          refine zr_callV0 F (k_XReader_need l D tA b sh _ ep78) zd_XReader_numbers_153 (zW_o hs76 (by decide)) rfl zs_XReader_45 rfl zq_XReader_need rfl rfl ⟨(Nat.le_of_ble_eq_true rfl), (Nat.le_of_ble_eq_true rfl)⟩ (Nat.le_of_ble_eq_true rfl) ⟨(Nat.le_of_ble_eq_true rfl), (Nat.le_of_ble_eq_true rfl)⟩ ?_
          refine zr_pcn 156 rfl ?_
          refine zr_iload F zd_XReader_numbers_156 rfl ?_
          obtain rfl := Option.some.inj h
          exact zr_iret F hr zd_XReader_numbers_158 (Nat.le_of_ble_eq_true rfl) (Nat.le_of_ble_eq_true rfl) ⟨rfl, rfl, rfl⟩
        ·
          replace h := (if_neg hb75).symm.trans h
          refine zr_iload F zd_XReader_numbers_129 rfl ?_
          refine zr_if_eq F 141 zd_XReader_numbers_131 (by decide) (fun hb79 => ?_) (fun hb79 => ?_)
          ·
            replace h := (if_pos hb79).symm.trans h
            refine zr_aload_n F zd_XReader_numbers_141 rfl ?_
            refine zr_iconstv (v := 3) F zd_XReader_numbers_142 (by decide) ?_
            refine zr_aload_n F zd_XReader_numbers_143 rfl ?_
            obtain ⟨le81, hs80, h⟩ := zoS_s h
            refine zr_get F 7 5 zd_XReader_numbers_144 (zW_o hs80 (by decide)) rfl (by decide) zw_53 rfl (by rfl) ?_
            refine zr_pcn 147 rfl ?_
            obtain ⟨le83, hs82, h⟩ := zoS_s h
            cases h
          ·
            replace h := (if_neg hb79).symm.trans h
            refine zr_iload F zd_XReader_numbers_134 rfl ?_
            refine zr_iload_n F zd_XReader_numbers_136 rfl ?_
            obtain ⟨hn85, h⟩ := zoI_s h
            refine zr_irem F zd_XReader_numbers_137 hn85 ?_
            refine zr_if_eq F 150 zd_XReader_numbers_138 (by decide) (fun hb86 => ?_) (fun hb86 => ?_)
            ·
              replace h := (if_pos hb86).symm.trans h
              refine zr_aload_n F zd_XReader_numbers_150 rfl ?_
              refine zr_bipushv (v := 93) F zd_XReader_numbers_151 (by decide) ?_
              obtain ⟨le88, hs87, h⟩ := zoS_s h
              obtain ⟨p89, ep89, h⟩ := zoB_s h
              refine zr_callV0 F (k_XReader_need l D tA b sh _ ep89) zd_XReader_numbers_153 (zW_o hs87 (by decide)) rfl zs_XReader_45 rfl zq_XReader_need rfl rfl ⟨(Nat.le_of_ble_eq_true rfl), (Nat.le_of_ble_eq_true rfl)⟩ (Nat.le_of_ble_eq_true rfl) ⟨(Nat.le_of_ble_eq_true rfl), (Nat.le_of_ble_eq_true rfl)⟩ ?_
              refine zr_pcn 156 rfl ?_
              refine zr_iload F zd_XReader_numbers_156 rfl ?_
              obtain rfl := Option.some.inj h
              exact zr_iret F hr zd_XReader_numbers_158 (Nat.le_of_ble_eq_true rfl) (Nat.le_of_ble_eq_true rfl) ⟨rfl, rfl, rfl⟩
            ·
              replace h := (if_neg hb86).symm.trans h
              refine zr_aload_n F zd_XReader_numbers_141 rfl ?_
              refine zr_iconstv (v := 3) F zd_XReader_numbers_142 (by decide) ?_
              refine zr_aload_n F zd_XReader_numbers_143 rfl ?_
              obtain ⟨le91, hs90, h⟩ := zoS_s h
              refine zr_get F 7 5 zd_XReader_numbers_144 (zW_o hs90 (by decide)) rfl (by decide) zw_53 rfl (by rfl) ?_
              obtain ⟨le93, hs92, h⟩ := zoS_s h
              cases h
      ·
        replace h := (if_neg hb71).symm.trans h
        refine zr_aload_n F zd_XReader_numbers_100 rfl ?_
        refine zr_pcn 101 rfl ?_
        refine zr_ldcw F zd_XReader_numbers_101 zw_1201 ?_
        refine zr_ldcw F zd_XReader_numbers_104 zw_1195 ?_
        obtain ⟨le96, hs95, h⟩ := zoS_s h
        obtain ⟨p97, ep97, h⟩ := zoB_s h
        refine zr_callV1 F (k_XReader_needNumber l D tA b sh _ ep97) zd_XReader_numbers_107 (zW_o hs95 (by decide)) rfl zs_XReader_278 rfl zq_XReader_needNumber rfl rfl ⟨(Nat.le_of_ble_eq_true rfl), (Nat.le_of_ble_eq_true rfl)⟩ (Nat.le_of_ble_eq_true rfl) ⟨(Nat.le_of_ble_eq_true rfl), (Nat.le_of_ble_eq_true rfl)⟩ ?_
        refine zr_pop F zd_XReader_numbers_110 rfl ?_
        refine zr_aload_n F zd_XReader_numbers_111 rfl ?_
        refine zr_iconstv (v := 3) F zd_XReader_numbers_112 (by decide) ?_
        refine zr_aload_n F zd_XReader_numbers_113 rfl ?_
        obtain ⟨le99, hs98, h⟩ := zoS_s h
        refine zr_get F 7 6 zd_XReader_numbers_114 (zW_o hs98 (by decide)) rfl (by decide) zw_54 rfl (by rfl) ?_
        refine zr_pcn 117 rfl ?_
        obtain ⟨le101, hs100, h⟩ := zoS_s h
        cases h
def L_T_XReader_numbers_34 (sh : zSh) (fuel : Nat) (v0 : Nat) (v2 : Int32) (v3 : Int32) (v4 : Int32) (v5 : Int32) (v6 : Int32) (v7 : Int32) (v8 : Int32) (v9 : Int32) (mm : zMem) : Option (Nat × Nat × Int32 × Int32 × Int32 × Int32 × Int32 × Int32 × Int32 × Int32 × zMem) := match fuel with
  | 0 => none
  | fu + 1 => (if v7 = 0 then some (1, v0, v2, v3, v4, v5, v6, v7, v8, v9, mm) else (if v2 ≤ v9 then some (1, v0, v2, v3, v4, v5, v6, v7, v8, v9, mm) else zoS (sh v0) 7 (fun le14 => Option.bind (mm.2.2 v0 2) (fun a15 => zoS (sh v0) 7 (fun le17 => zoX (F_XReader_needNumber sh mm v0 v8 v5) (Option.bind (T_XReader_needNumber sh mm v0 v8 v5) (fun mq19 => some (0, (0 : Nat), (0 : Int32), (0 : Int32), (0 : Int32), (0 : Int32), (0 : Int32), (0 : Int32), (0 : Int32), (0 : Int32), mq19))) (fun p18 => zoS (sh a15) 100 (fun le21 => if (v9 : Int32) < 0 ∨ le21 ≤ (v9 : Int32).toNatClampNeg then none else zoL (mI (p18.2) a15 (v9 : Int32).toNatClampNeg (p18.1)) (fun mm23 => (if v6 = 0 then zoS (sh v0) 7 (fun le26 => Option.bind (F_XReader_takes sh mm23 v0 44) (fun p27 => L_T_XReader_numbers_34 sh fu v0 v2 v3 v4 v5 v6 (p27.1) v4 (v9 + 1) (p27.2))) else zoS (sh v0) 7 (fun le29 => Option.bind (mm23.2.2 v0 2) (fun a30 => zoS (sh a30) 100 (fun le32 => if (v9 : Int32) < 0 ∨ le32 ≤ (v9 : Int32).toNatClampNeg then none else zoL ((mm23.1 a30 (v9 : Int32).toNatClampNeg) + 1) (fun x34 => zoS (sh v0) 7 (fun le36 => Option.bind (F_XReader_takes sh mm23 v0 44) (fun p37 => L_T_XReader_numbers_34 sh fu v0 v2 v3 v4 v5 v6 (p37.1) x34 (v9 + 1) (p37.2))))))))))))))))
set_option maxHeartbeats 4000000 in
set_option maxRecDepth 100000 in
theorem lp_T_XReader_numbers_34 {p : Program} {l : Launch} {e : Env} {s : State} {m : MethodId} {args : Array Value} {below : List Frame} {meth : Method} {c : Code} {D : va_G} {tA : Nat → ClassId} {b n : Nat} {fT : zV} {nT : Nat} {sh : zSh} (F : zF p s m args meth c zb_XReader_numbers 10 "OrreryBox$Reader" D tA b) (hl : l.stackTraces = false) (hno : c.exceptionTable.toList = []) : ∀ (fuel : Nat) (v0 : Nat) (v2 : Int32) (v3 : Int32) (v4 : Int32) (v5 : Int32) (v6 : Int32) (v7 : Int32) (v8 : Int32) (v9 : Int32) (mm : zMem) (r : Nat × Nat × Int32 × Int32 × Int32 × Int32 × Int32 × Int32 × Int32 × Int32 × zMem), L_T_XReader_numbers_34 sh fuel v0 v2 v3 v4 v5 v6 v7 v8 v9 mm = some r → (r.1 = 1 → Z p l e { frames := 8, cells := 1, slots := 6, locals := 137 } s m args below meth c D b 10 (zTQ below D b "java/lang/IllegalArgumentException" fT nT args s 1 6) (zW tA b sh r.2.2.2.2.2.2.2.2.2.2) n 0 0 95 [(0, .ref (b + (r.2.1))), (2, .int (r.2.2.1)), (3, .int (r.2.2.2.1)), (4, .int (r.2.2.2.2.1)), (5, .int (r.2.2.2.2.2.1)), (6, .int (r.2.2.2.2.2.2.1)), (7, .int (r.2.2.2.2.2.2.2.1)), (8, .int (r.2.2.2.2.2.2.2.2.1)), (9, .int (r.2.2.2.2.2.2.2.2.2.1))] []) → (r.1 = 0 → zW tA b sh r.2.2.2.2.2.2.2.2.2.2 = fT ∧ n + 1 = nT) → Z p l e { frames := 8, cells := 1, slots := 6, locals := 137 } s m args below meth c D b 10 (zTQ below D b "java/lang/IllegalArgumentException" fT nT args s 1 6) (zW tA b sh mm) n 0 0 34 [(0, .ref (b + v0)), (2, .int v2), (3, .int v3), (4, .int v4), (5, .int v5), (6, .int v6), (7, .int v7), (8, .int v8), (9, .int v9)] [] := by
  intro fuel
  induction fuel with
  | zero =>
    intro v0 v2 v3 v4 v5 v6 v7 v8 v9 mm r h
    cases h
  | succ fu ih =>
    intro v0 v2 v3 v4 v5 v6 v7 v8 v9 mm r h hx0 hp
    rw [L_T_XReader_numbers_34] at h
    refine zr_iload F zd_XReader_numbers_34 rfl ?_
    refine zr_if_eq F 95 zd_XReader_numbers_36 (by decide) (fun hb11 => ?_) (fun hb11 => ?_)
    ·
      replace h := (if_pos hb11).symm.trans h
      obtain rfl := Option.some.inj h
      refine zr_loc (L' := [(0, .ref (b + v0)), (2, .int v2), (3, .int v3), (4, .int v4), (5, .int v5), (6, .int v6), (7, .int v7), (8, .int v8), (9, .int v9)]) ⟨rfl, rfl, rfl, rfl, rfl, rfl, rfl, rfl, rfl, trivial⟩ ?_
      exact hx0 rfl
    ·
      replace h := (if_neg hb11).symm.trans h
      refine zr_iload F zd_XReader_numbers_39 rfl ?_
      refine zr_iload_n F zd_XReader_numbers_41 rfl ?_
      refine zr_icmp_ge F 95 zd_XReader_numbers_42 (by decide) (fun hb12 => ?_) (fun hb12 => ?_)
      ·
        replace h := (if_pos hb12).symm.trans h
        obtain rfl := Option.some.inj h
        refine zr_loc (L' := [(0, .ref (b + v0)), (2, .int v2), (3, .int v3), (4, .int v4), (5, .int v5), (6, .int v6), (7, .int v7), (8, .int v8), (9, .int v9)]) ⟨rfl, rfl, rfl, rfl, rfl, rfl, rfl, rfl, rfl, trivial⟩ ?_
        exact hx0 rfl
      ·
        replace h := (if_neg hb12).symm.trans h
        refine zr_aload_n F zd_XReader_numbers_45 rfl ?_
        obtain ⟨le14, hs13, h⟩ := zoS_s h
        obtain ⟨a15, ea15, h⟩ := zoB_s h
        refine zr_get F 7 2 zd_XReader_numbers_46 (zW_o hs13 (by decide)) rfl (by decide) zw_50 rfl (by rfl) ?_
        refine zr_tor ea15 ?_
        refine zr_pcn 49 rfl ?_
        refine zr_iload F zd_XReader_numbers_49 rfl ?_
        refine zr_aload_n F zd_XReader_numbers_51 rfl ?_
        refine zr_iload F zd_XReader_numbers_52 rfl ?_
        refine zr_iload F zd_XReader_numbers_54 rfl ?_
        obtain ⟨le17, hs16, h⟩ := zoS_s h
        cases ep18 : F_XReader_needNumber sh mm v0 v8 v5 with
        | none =>
          rw [ep18] at h
          dsimp only [zoX] at h
          obtain ⟨mq19, emq19, h⟩ := zoB_s h
          obtain rfl := Option.some.inj h
          obtain ⟨ef, en⟩ := hp rfl
          subst ef
          subst en
          exact zr_thrV F hno (kT_XReader_needNumber l D tA b sh _ hl emq19) zd_XReader_numbers_56 (zW_o hs16 (by decide)) rfl zs_XReader_278 rfl zq_XReader_needNumber rfl rfl ⟨(Nat.le_of_ble_eq_true rfl), (Nat.le_of_ble_eq_true rfl)⟩ (Nat.le_of_ble_eq_true rfl) ⟨(Nat.le_of_ble_eq_true rfl), (Nat.le_of_ble_eq_true rfl)⟩ ⟨(Nat.le_of_ble_eq_true rfl), (Nat.le_of_ble_eq_true rfl)⟩
        | some p18 =>
          rw [ep18] at h
          dsimp only [zoX] at h
          refine zr_callV1 F (k_XReader_needNumber l D tA b sh _ ep18) zd_XReader_numbers_56 (zW_o hs16 (by decide)) rfl zs_XReader_278 rfl zq_XReader_needNumber rfl rfl ⟨(Nat.le_of_ble_eq_true rfl), (Nat.le_of_ble_eq_true rfl)⟩ (Nat.le_of_ble_eq_true rfl) ⟨(Nat.le_of_ble_eq_true rfl), (Nat.le_of_ble_eq_true rfl)⟩ ?_
          obtain ⟨le21, hs20, h⟩ := zoS_s h
          obtain ⟨hi22, h⟩ := zoI_s h
          refine zr_iast F zd_XReader_numbers_59 (zW_a0 hs20) hi22 ?_
          obtain ⟨mm23, emm23, h⟩ := zoL_s h
          refine zr_norm (zW tA b sh mm23) _ (by rw [emm23]; exact zW_s0 hs20) rfl ?_
          refine zr_iload F zd_XReader_numbers_60 rfl ?_
          refine zr_if_eq F 77 zd_XReader_numbers_62 (by decide) (fun hb24 => ?_) (fun hb24 => ?_)
          ·
            replace h := (if_pos hb24).symm.trans h
            refine zr_pcn 77 rfl ?_
            refine zr_iload F zd_XReader_numbers_77 rfl ?_
            refine zr_istore F zd_XReader_numbers_79 (by decide) ?_
            refine zr_iinc (v := (v9 + 1)) F zd_XReader_numbers_81 rfl rfl (by decide) ?_
            refine zr_aload_n F zd_XReader_numbers_84 rfl ?_
            refine zr_bipushv (v := 44) F zd_XReader_numbers_85 (by decide) ?_
            obtain ⟨le26, hs25, h⟩ := zoS_s h
            obtain ⟨p27, ep27, h⟩ := zoB_s h
            refine zr_callV1 F (k_XReader_takes l D tA b sh _ ep27) zd_XReader_numbers_87 (zW_o hs25 (by decide)) rfl zs_XReader_74 rfl zq_XReader_takes rfl rfl ⟨(Nat.le_of_ble_eq_true rfl), (Nat.le_of_ble_eq_true rfl)⟩ (Nat.le_of_ble_eq_true rfl) ⟨(Nat.le_of_ble_eq_true rfl), (Nat.le_of_ble_eq_true rfl)⟩ ?_
            refine zr_istore F zd_XReader_numbers_90 (by decide) ?_
            refine zr_loc (L' := [(0, .ref (b + v0)), (2, .int v2), (3, .int v3), (4, .int v4), (5, .int v5), (6, .int v6), (7, .int (p27.1)), (8, .int v4), (9, .int (v9 + 1))]) ⟨rfl, rfl, rfl, rfl, rfl, rfl, rfl, rfl, rfl, trivial⟩ ?_
            refine zr_goto F 34 zd_XReader_numbers_92 (by decide) ?_
            refine zr_loc (L' := [(0, .ref (b + v0)), (2, .int v2), (3, .int v3), (4, .int v4), (5, .int v5), (6, .int v6), (7, .int (p27.1)), (8, .int v4), (9, .int (v9 + 1))]) ⟨rfl, rfl, rfl, rfl, rfl, rfl, rfl, rfl, rfl, trivial⟩ ?_
            exact ih _ _ _ _ _ _ _ _ _ _ _ h hx0 hp
          ·
            replace h := (if_neg hb24).symm.trans h
            refine zr_pcn 65 rfl ?_
            refine zr_aload_n F zd_XReader_numbers_65 rfl ?_
            obtain ⟨le29, hs28, h⟩ := zoS_s h
            obtain ⟨a30, ea30, h⟩ := zoB_s h
            refine zr_get F 7 2 zd_XReader_numbers_66 (zW_o hs28 (by decide)) rfl (by decide) zw_50 rfl (by rfl) ?_
            refine zr_tor ea30 ?_
            refine zr_iload F zd_XReader_numbers_69 rfl ?_
            obtain ⟨le32, hs31, h⟩ := zoS_s h
            obtain ⟨hi33, h⟩ := zoI_s h
            refine zr_iald F zd_XReader_numbers_71 (zW_a0 hs31) hi33 ?_
            refine zr_iconstv (v := 1) F zd_XReader_numbers_72 (by decide) ?_
            refine zr_iadd F zd_XReader_numbers_73 ?_
            refine zr_goto F 79 zd_XReader_numbers_74 (by decide) ?_
            obtain ⟨x34, ex34, h⟩ := zoL_s h
            rw [← ex34]
            refine zr_istore F zd_XReader_numbers_79 (by decide) ?_
            refine zr_pcn 81 rfl ?_
            refine zr_iinc (v := (v9 + 1)) F zd_XReader_numbers_81 rfl rfl (by decide) ?_
            refine zr_aload_n F zd_XReader_numbers_84 rfl ?_
            refine zr_bipushv (v := 44) F zd_XReader_numbers_85 (by decide) ?_
            obtain ⟨le36, hs35, h⟩ := zoS_s h
            obtain ⟨p37, ep37, h⟩ := zoB_s h
            refine zr_callV1 F (k_XReader_takes l D tA b sh _ ep37) zd_XReader_numbers_87 (zW_o hs35 (by decide)) rfl zs_XReader_74 rfl zq_XReader_takes rfl rfl ⟨(Nat.le_of_ble_eq_true rfl), (Nat.le_of_ble_eq_true rfl)⟩ (Nat.le_of_ble_eq_true rfl) ⟨(Nat.le_of_ble_eq_true rfl), (Nat.le_of_ble_eq_true rfl)⟩ ?_
            refine zr_istore F zd_XReader_numbers_90 (by decide) ?_
            refine zr_loc (L' := [(0, .ref (b + v0)), (2, .int v2), (3, .int v3), (4, .int v4), (5, .int v5), (6, .int v6), (7, .int (p37.1)), (8, .int x34), (9, .int (v9 + 1))]) ⟨rfl, rfl, rfl, rfl, rfl, rfl, rfl, rfl, rfl, trivial⟩ ?_
            refine zr_goto F 34 zd_XReader_numbers_92 (by decide) ?_
            refine zr_loc (L' := [(0, .ref (b + v0)), (2, .int v2), (3, .int v3), (4, .int v4), (5, .int v5), (6, .int v6), (7, .int (p37.1)), (8, .int x34), (9, .int (v9 + 1))]) ⟨rfl, rfl, rfl, rfl, rfl, rfl, rfl, rfl, rfl, trivial⟩ ?_
            exact ih _ _ _ _ _ _ _ _ _ _ _ h hx0 hp
def T_XReader_numbers (sh : zSh) (mm : zMem) (o : Nat) (x0_ : Nat) (x1_ : Int32) (x2_ : Int32) (x3_ : Int32) (x4_ : Int32) (x5_ : Int32) : Option zMem := zoS (sh o) 7 (fun le2 => zoX (F_XReader_needName sh mm o x0_) (T_XReader_needName sh mm o x0_) (fun p3 => zoS (sh o) 7 (fun le5 => zoX (F_XReader_need sh p3 o 91) (T_XReader_need sh p3 o 91) (fun p6 => zoS (sh o) 7 (fun le8 => Option.bind (F_XReader_sees sh p6 o 93) (fun p9 => (if p9.1 = 0 then Option.bind (L_T_XReader_numbers_34 sh zfuel o x1_ x2_ x3_ x4_ x5_ 1 x3_ 0 (p9.2)) (fun q71 => (if q71.1 = 1 then (if q71.2.2.2.2.2.2.2.1 = 0 then zoS (sh (q71.2.1)) 7 (fun le74 => Option.bind (F_XReader_sees sh (q71.2.2.2.2.2.2.2.2.2.2) (q71.2.1) 93) (fun p75 => (if p75.1 = 0 then zoS (sh (q71.2.1)) 7 (fun le78 => zoX (F_XReader_need sh (p75.2) (q71.2.1) 93) (T_XReader_need sh (p75.2) (q71.2.1) 93) (fun p79 => none)) else (if q71.2.2.2.2.2.2.2.2.2.1 = 0 then zoS (sh (q71.2.1)) 7 (fun le82 => zoS (sh (q71.2.1)) 7 (fun le84 => T_XReader_refuse sh (p75.2) (q71.2.1) 3 ((p75.2).1 (q71.2.1) 5))) else (if q71.2.2.2.1 = 0 then none else (if (q71.2.2.2.2.2.2.2.2.2.1 - q71.2.2.2.2.2.2.2.2.2.1 / q71.2.2.2.1 * q71.2.2.2.1) = 0 then zoS (sh (q71.2.1)) 7 (fun le89 => zoX (F_XReader_need sh (p75.2) (q71.2.1) 93) (T_XReader_need sh (p75.2) (q71.2.1) 93) (fun p90 => none)) else zoS (sh (q71.2.1)) 7 (fun le92 => zoS (sh (q71.2.1)) 7 (fun le94 => T_XReader_refuse sh (p75.2) (q71.2.1) 3 ((p75.2).1 (q71.2.1) 5))))))))) else zoS (sh (q71.2.1)) 7 (fun le97 => zoX (F_XReader_needNumber sh (q71.2.2.2.2.2.2.2.2.2.2) (q71.2.1) (-100000000) 100000000) (T_XReader_needNumber sh (q71.2.2.2.2.2.2.2.2.2.2) (q71.2.1) (-100000000) 100000000) (fun p98 => zoS (sh (q71.2.1)) 7 (fun le100 => zoS (sh (q71.2.1)) 7 (fun le102 => T_XReader_refuse sh (p98.2) (q71.2.1) 3 ((p98.2).1 (q71.2.1) 6)))))) else some (q71.2.2.2.2.2.2.2.2.2.2))) else Option.bind (L_T_XReader_numbers_34 sh zfuel o x1_ x2_ x3_ x4_ x5_ 0 x3_ 0 (p9.2)) (fun q38 => (if q38.1 = 1 then (if q38.2.2.2.2.2.2.2.1 = 0 then zoS (sh (q38.2.1)) 7 (fun le41 => Option.bind (F_XReader_sees sh (q38.2.2.2.2.2.2.2.2.2.2) (q38.2.1) 93) (fun p42 => (if p42.1 = 0 then zoS (sh (q38.2.1)) 7 (fun le45 => zoX (F_XReader_need sh (p42.2) (q38.2.1) 93) (T_XReader_need sh (p42.2) (q38.2.1) 93) (fun p46 => none)) else (if q38.2.2.2.2.2.2.2.2.2.1 = 0 then zoS (sh (q38.2.1)) 7 (fun le49 => zoS (sh (q38.2.1)) 7 (fun le51 => T_XReader_refuse sh (p42.2) (q38.2.1) 3 ((p42.2).1 (q38.2.1) 5))) else (if q38.2.2.2.1 = 0 then none else (if (q38.2.2.2.2.2.2.2.2.2.1 - q38.2.2.2.2.2.2.2.2.2.1 / q38.2.2.2.1 * q38.2.2.2.1) = 0 then zoS (sh (q38.2.1)) 7 (fun le56 => zoX (F_XReader_need sh (p42.2) (q38.2.1) 93) (T_XReader_need sh (p42.2) (q38.2.1) 93) (fun p57 => none)) else zoS (sh (q38.2.1)) 7 (fun le59 => zoS (sh (q38.2.1)) 7 (fun le61 => T_XReader_refuse sh (p42.2) (q38.2.1) 3 ((p42.2).1 (q38.2.1) 5))))))))) else zoS (sh (q38.2.1)) 7 (fun le64 => zoX (F_XReader_needNumber sh (q38.2.2.2.2.2.2.2.2.2.2) (q38.2.1) (-100000000) 100000000) (T_XReader_needNumber sh (q38.2.2.2.2.2.2.2.2.2.2) (q38.2.1) (-100000000) 100000000) (fun p65 => zoS (sh (q38.2.1)) 7 (fun le67 => zoS (sh (q38.2.1)) 7 (fun le69 => T_XReader_refuse sh (p65.2) (q38.2.1) 3 ((p65.2).1 (q38.2.1) 6)))))) else some (q38.2.2.2.2.2.2.2.2.2.2))))))))))
set_option maxHeartbeats 4000000 in
set_option maxRecDepth 100000 in
theorem kT_XReader_numbers (l : Launch) (D : va_G) (tA : Nat → ClassId) (b : Nat) (sh : zSh) (n : Nat) (hl : l.stackTraces = false) {mm : zMem} {o : Nat} {x0_ : Nat} {x1_ : Int32} {x2_ : Int32} {x3_ : Int32} {x4_ : Int32} {x5_ : Int32} {r : zMem} (h : T_XReader_numbers sh mm o x0_ x1_ x2_ x3_ x4_ x5_ = some r) : zMT l D tA b zy_XReader_numbers zb_XReader_numbers 10 (some .int) 8 137 1 6 [.ref (b + o), .ref (D.2 1000 x0_), .int x1_, .int x2_, .int x3_, .int x4_, .int x5_] (zW tA b sh mm) n "java/lang/IllegalArgumentException" (zW tA b sh r) (n + 1) := by
  unfold T_XReader_numbers at h
  refine zMT_of (own := "OrreryBox$Reader") (plainFor_of_name (by decide)) rfl (Nat.le_of_ble_eq_true rfl) (fun p e s m below meth c F hno hH => ?_)
  refine zr_aload_n F zd_XReader_numbers_0 rfl ?_
  refine zr_aload_n F zd_XReader_numbers_1 rfl ?_
  obtain ⟨le2, hs1, h⟩ := zoS_s h
  cases ep3 : F_XReader_needName sh mm o x0_ with
  | none =>
    rw [ep3] at h
    dsimp only [zoX] at h
    exact zr_thrV F hno (kT_XReader_needName l D tA b sh _ hl h) zd_XReader_numbers_2 (zW_o hs1 (by decide)) rfl zs_XReader_61 rfl zq_XReader_needName rfl rfl ⟨(Nat.le_of_ble_eq_true rfl), (Nat.le_of_ble_eq_true rfl)⟩ (Nat.le_of_ble_eq_true rfl) ⟨(Nat.le_of_ble_eq_true rfl), (Nat.le_of_ble_eq_true rfl)⟩ ⟨(Nat.le_of_ble_eq_true rfl), (Nat.le_of_ble_eq_true rfl)⟩
  | some p3 =>
    rw [ep3] at h
    dsimp only [zoX] at h
    refine zr_callV0 F (k_XReader_needName l D tA b sh _ ep3) zd_XReader_numbers_2 (zW_o hs1 (by decide)) rfl zs_XReader_61 rfl zq_XReader_needName rfl rfl ⟨(Nat.le_of_ble_eq_true rfl), (Nat.le_of_ble_eq_true rfl)⟩ (Nat.le_of_ble_eq_true rfl) ⟨(Nat.le_of_ble_eq_true rfl), (Nat.le_of_ble_eq_true rfl)⟩ ?_
    refine zr_aload_n F zd_XReader_numbers_5 rfl ?_
    refine zr_bipushv (v := 91) F zd_XReader_numbers_6 (by decide) ?_
    obtain ⟨le5, hs4, h⟩ := zoS_s h
    cases ep6 : F_XReader_need sh p3 o 91 with
    | none =>
      rw [ep6] at h
      dsimp only [zoX] at h
      exact zr_thrV F hno (kT_XReader_need l D tA b sh _ hl h) zd_XReader_numbers_8 (zW_o hs4 (by decide)) rfl zs_XReader_45 rfl zq_XReader_need rfl rfl ⟨(Nat.le_of_ble_eq_true rfl), (Nat.le_of_ble_eq_true rfl)⟩ (Nat.le_of_ble_eq_true rfl) ⟨(Nat.le_of_ble_eq_true rfl), (Nat.le_of_ble_eq_true rfl)⟩ ⟨(Nat.le_of_ble_eq_true rfl), (Nat.le_of_ble_eq_true rfl)⟩
    | some p6 =>
      rw [ep6] at h
      dsimp only [zoX] at h
      refine zr_callV0 F (k_XReader_need l D tA b sh _ ep6) zd_XReader_numbers_8 (zW_o hs4 (by decide)) rfl zs_XReader_45 rfl zq_XReader_need rfl rfl ⟨(Nat.le_of_ble_eq_true rfl), (Nat.le_of_ble_eq_true rfl)⟩ (Nat.le_of_ble_eq_true rfl) ⟨(Nat.le_of_ble_eq_true rfl), (Nat.le_of_ble_eq_true rfl)⟩ ?_
      refine zr_aload_n F zd_XReader_numbers_11 rfl ?_
      refine zr_pcn 12 rfl ?_
      refine zr_bipushv (v := 93) F zd_XReader_numbers_12 (by decide) ?_
      obtain ⟨le8, hs7, h⟩ := zoS_s h
      obtain ⟨p9, ep9, h⟩ := zoB_s h
      refine zr_callV1 F (k_XReader_sees l D tA b sh _ ep9) zd_XReader_numbers_14 (zW_o hs7 (by decide)) rfl zs_XReader_49 rfl zq_XReader_sees rfl rfl ⟨(Nat.le_of_ble_eq_true rfl), (Nat.le_of_ble_eq_true rfl)⟩ (Nat.le_of_ble_eq_true rfl) ⟨(Nat.le_of_ble_eq_true rfl), (Nat.le_of_ble_eq_true rfl)⟩ ?_
      refine zr_if_ne F 24 zd_XReader_numbers_17 (by decide) (fun hb10 => ?_) (fun hb10 => ?_)
      ·
        replace h := (if_neg hb10).symm.trans h
        refine zr_iconstv (v := 0) F zd_XReader_numbers_24 (by decide) ?_
        refine zr_istore F zd_XReader_numbers_25 (by decide) ?_
        refine zr_iload F zd_XReader_numbers_27 rfl ?_
        refine zr_istore F zd_XReader_numbers_29 (by decide) ?_
        refine zr_iconstv (v := 0) F zd_XReader_numbers_31 (by decide) ?_
        refine zr_pcn 32 rfl ?_
        refine zr_istore F zd_XReader_numbers_32 (by decide) ?_
        refine zr_loc (L' := [(0, .ref (b + o)), (2, .int x1_), (3, .int x2_), (4, .int x3_), (5, .int x4_), (6, .int x5_), (7, .int 0), (8, .int x3_), (9, .int 0)]) ⟨rfl, rfl, rfl, rfl, rfl, rfl, rfl, rfl, rfl, trivial⟩ ?_
        obtain ⟨q38, eq38, h⟩ := zoB_s h
        refine zr_loc (L' := [(0, .ref (b + o)), (2, .int x1_), (3, .int x2_), (4, .int x3_), (5, .int x4_), (6, .int x5_), (7, .int 0), (8, .int x3_), (9, .int 0)]) ⟨rfl, rfl, rfl, rfl, rfl, rfl, rfl, rfl, rfl, trivial⟩ ?_
        refine lp_T_XReader_numbers_34 F hl hno _ _ _ _ _ _ _ _ _ _ _ _ eq38 ?_ ?_
        ·
          intro ec
          rw [if_pos ec] at h
          refine zr_iload F zd_XReader_numbers_95 rfl ?_
          refine zr_if_eq F 120 zd_XReader_numbers_97 (by decide) (fun hb39 => ?_) (fun hb39 => ?_)
          ·
            replace h := (if_pos hb39).symm.trans h
            refine zr_pcn 120 rfl ?_
            refine zr_aload_n F zd_XReader_numbers_120 rfl ?_
            refine zr_bipushv (v := 93) F zd_XReader_numbers_121 (by decide) ?_
            obtain ⟨le41, hs40, h⟩ := zoS_s h
            obtain ⟨p42, ep42, h⟩ := zoB_s h
            refine zr_callV1 F (k_XReader_sees l D tA b sh _ ep42) zd_XReader_numbers_123 (zW_o hs40 (by decide)) rfl zs_XReader_49 rfl zq_XReader_sees rfl rfl ⟨(Nat.le_of_ble_eq_true rfl), (Nat.le_of_ble_eq_true rfl)⟩ (Nat.le_of_ble_eq_true rfl) ⟨(Nat.le_of_ble_eq_true rfl), (Nat.le_of_ble_eq_true rfl)⟩ ?_
            refine zr_if_eq F 150 zd_XReader_numbers_126 (by decide) (fun hb43 => ?_) (fun hb43 => ?_)
            ·
              replace h := (if_pos hb43).symm.trans h
              refine zr_aload_n F zd_XReader_numbers_150 rfl ?_
              refine zr_bipushv (v := 93) F zd_XReader_numbers_151 (by decide) ?_
              obtain ⟨le45, hs44, h⟩ := zoS_s h
              cases ep46 : F_XReader_need sh (p42.2) (q38.2.1) 93 with
              | none =>
                rw [ep46] at h
                dsimp only [zoX] at h
                exact zr_thrV F hno (kT_XReader_need l D tA b sh _ hl h) zd_XReader_numbers_153 (zW_o hs44 (by decide)) rfl zs_XReader_45 rfl zq_XReader_need rfl rfl ⟨(Nat.le_of_ble_eq_true rfl), (Nat.le_of_ble_eq_true rfl)⟩ (Nat.le_of_ble_eq_true rfl) ⟨(Nat.le_of_ble_eq_true rfl), (Nat.le_of_ble_eq_true rfl)⟩ ⟨(Nat.le_of_ble_eq_true rfl), (Nat.le_of_ble_eq_true rfl)⟩
              | some p46 =>
                rw [ep46] at h
                dsimp only [zoX] at h
                refine zr_callV0 F (k_XReader_need l D tA b sh _ ep46) zd_XReader_numbers_153 (zW_o hs44 (by decide)) rfl zs_XReader_45 rfl zq_XReader_need rfl rfl ⟨(Nat.le_of_ble_eq_true rfl), (Nat.le_of_ble_eq_true rfl)⟩ (Nat.le_of_ble_eq_true rfl) ⟨(Nat.le_of_ble_eq_true rfl), (Nat.le_of_ble_eq_true rfl)⟩ ?_
                refine zr_iload F zd_XReader_numbers_156 rfl ?_
                refine zr_pcn 158 rfl ?_
                cases h
            ·
              replace h := (if_neg hb43).symm.trans h
              refine zr_iload F zd_XReader_numbers_129 rfl ?_
              refine zr_if_eq F 141 zd_XReader_numbers_131 (by decide) (fun hb47 => ?_) (fun hb47 => ?_)
              ·
                replace h := (if_pos hb47).symm.trans h
                refine zr_aload_n F zd_XReader_numbers_141 rfl ?_
                refine zr_iconstv (v := 3) F zd_XReader_numbers_142 (by decide) ?_
                refine zr_aload_n F zd_XReader_numbers_143 rfl ?_
                obtain ⟨le49, hs48, h⟩ := zoS_s h
                refine zr_get F 7 5 zd_XReader_numbers_144 (zW_o hs48 (by decide)) rfl (by decide) zw_53 rfl (by rfl) ?_
                obtain ⟨le51, hs50, h⟩ := zoS_s h
                exact zr_thrV F hno (kT_XReader_refuse l D tA b sh _ hl h) zd_XReader_numbers_147 (zW_o hs50 (by decide)) rfl zs_XReader_77 rfl zq_XReader_refuse rfl rfl ⟨(Nat.le_of_ble_eq_true rfl), (Nat.le_of_ble_eq_true rfl)⟩ (Nat.le_of_ble_eq_true rfl) ⟨(Nat.le_of_ble_eq_true rfl), (Nat.le_of_ble_eq_true rfl)⟩ ⟨(Nat.le_of_ble_eq_true rfl), (Nat.le_of_ble_eq_true rfl)⟩
              ·
                replace h := (if_neg hb47).symm.trans h
                refine zr_pcn 134 rfl ?_
                refine zr_iload F zd_XReader_numbers_134 rfl ?_
                refine zr_iload_n F zd_XReader_numbers_136 rfl ?_
                obtain ⟨hn53, h⟩ := zoI_s h
                refine zr_irem F zd_XReader_numbers_137 hn53 ?_
                refine zr_if_eq F 150 zd_XReader_numbers_138 (by decide) (fun hb54 => ?_) (fun hb54 => ?_)
                ·
                  replace h := (if_pos hb54).symm.trans h
                  refine zr_aload_n F zd_XReader_numbers_150 rfl ?_
                  refine zr_bipushv (v := 93) F zd_XReader_numbers_151 (by decide) ?_
                  obtain ⟨le56, hs55, h⟩ := zoS_s h
                  cases ep57 : F_XReader_need sh (p42.2) (q38.2.1) 93 with
                  | none =>
                    rw [ep57] at h
                    dsimp only [zoX] at h
                    exact zr_thrV F hno (kT_XReader_need l D tA b sh _ hl h) zd_XReader_numbers_153 (zW_o hs55 (by decide)) rfl zs_XReader_45 rfl zq_XReader_need rfl rfl ⟨(Nat.le_of_ble_eq_true rfl), (Nat.le_of_ble_eq_true rfl)⟩ (Nat.le_of_ble_eq_true rfl) ⟨(Nat.le_of_ble_eq_true rfl), (Nat.le_of_ble_eq_true rfl)⟩ ⟨(Nat.le_of_ble_eq_true rfl), (Nat.le_of_ble_eq_true rfl)⟩
                  | some p57 =>
                    rw [ep57] at h
                    dsimp only [zoX] at h
                    refine zr_callV0 F (k_XReader_need l D tA b sh _ ep57) zd_XReader_numbers_153 (zW_o hs55 (by decide)) rfl zs_XReader_45 rfl zq_XReader_need rfl rfl ⟨(Nat.le_of_ble_eq_true rfl), (Nat.le_of_ble_eq_true rfl)⟩ (Nat.le_of_ble_eq_true rfl) ⟨(Nat.le_of_ble_eq_true rfl), (Nat.le_of_ble_eq_true rfl)⟩ ?_
                    refine zr_iload F zd_XReader_numbers_156 rfl ?_
                    refine zr_pcn 158 rfl ?_
                    cases h
                ·
                  replace h := (if_neg hb54).symm.trans h
                  refine zr_aload_n F zd_XReader_numbers_141 rfl ?_
                  refine zr_iconstv (v := 3) F zd_XReader_numbers_142 (by decide) ?_
                  refine zr_aload_n F zd_XReader_numbers_143 rfl ?_
                  obtain ⟨le59, hs58, h⟩ := zoS_s h
                  refine zr_get F 7 5 zd_XReader_numbers_144 (zW_o hs58 (by decide)) rfl (by decide) zw_53 rfl (by rfl) ?_
                  obtain ⟨le61, hs60, h⟩ := zoS_s h
                  exact zr_thrV F hno (kT_XReader_refuse l D tA b sh _ hl h) zd_XReader_numbers_147 (zW_o hs60 (by decide)) rfl zs_XReader_77 rfl zq_XReader_refuse rfl rfl ⟨(Nat.le_of_ble_eq_true rfl), (Nat.le_of_ble_eq_true rfl)⟩ (Nat.le_of_ble_eq_true rfl) ⟨(Nat.le_of_ble_eq_true rfl), (Nat.le_of_ble_eq_true rfl)⟩ ⟨(Nat.le_of_ble_eq_true rfl), (Nat.le_of_ble_eq_true rfl)⟩
          ·
            replace h := (if_neg hb39).symm.trans h
            refine zr_aload_n F zd_XReader_numbers_100 rfl ?_
            refine zr_ldcw F zd_XReader_numbers_101 zw_1201 ?_
            refine zr_pcn 104 rfl ?_
            refine zr_ldcw F zd_XReader_numbers_104 zw_1195 ?_
            obtain ⟨le64, hs63, h⟩ := zoS_s h
            cases ep65 : F_XReader_needNumber sh (q38.2.2.2.2.2.2.2.2.2.2) (q38.2.1) (-100000000) 100000000 with
            | none =>
              rw [ep65] at h
              dsimp only [zoX] at h
              exact zr_thrV F hno (kT_XReader_needNumber l D tA b sh _ hl h) zd_XReader_numbers_107 (zW_o hs63 (by decide)) rfl zs_XReader_278 rfl zq_XReader_needNumber rfl rfl ⟨(Nat.le_of_ble_eq_true rfl), (Nat.le_of_ble_eq_true rfl)⟩ (Nat.le_of_ble_eq_true rfl) ⟨(Nat.le_of_ble_eq_true rfl), (Nat.le_of_ble_eq_true rfl)⟩ ⟨(Nat.le_of_ble_eq_true rfl), (Nat.le_of_ble_eq_true rfl)⟩
            | some p65 =>
              rw [ep65] at h
              dsimp only [zoX] at h
              refine zr_callV1 F (k_XReader_needNumber l D tA b sh _ ep65) zd_XReader_numbers_107 (zW_o hs63 (by decide)) rfl zs_XReader_278 rfl zq_XReader_needNumber rfl rfl ⟨(Nat.le_of_ble_eq_true rfl), (Nat.le_of_ble_eq_true rfl)⟩ (Nat.le_of_ble_eq_true rfl) ⟨(Nat.le_of_ble_eq_true rfl), (Nat.le_of_ble_eq_true rfl)⟩ ?_
              refine zr_pop F zd_XReader_numbers_110 rfl ?_
              refine zr_aload_n F zd_XReader_numbers_111 rfl ?_
              refine zr_iconstv (v := 3) F zd_XReader_numbers_112 (by decide) ?_
              refine zr_aload_n F zd_XReader_numbers_113 rfl ?_
              obtain ⟨le67, hs66, h⟩ := zoS_s h
              refine zr_get F 7 6 zd_XReader_numbers_114 (zW_o hs66 (by decide)) rfl (by decide) zw_54 rfl (by rfl) ?_
              obtain ⟨le69, hs68, h⟩ := zoS_s h
              exact zr_thrV F hno (kT_XReader_refuse l D tA b sh _ hl h) zd_XReader_numbers_117 (zW_o hs68 (by decide)) rfl zs_XReader_77 rfl zq_XReader_refuse rfl rfl ⟨(Nat.le_of_ble_eq_true rfl), (Nat.le_of_ble_eq_true rfl)⟩ (Nat.le_of_ble_eq_true rfl) ⟨(Nat.le_of_ble_eq_true rfl), (Nat.le_of_ble_eq_true rfl)⟩ ⟨(Nat.le_of_ble_eq_true rfl), (Nat.le_of_ble_eq_true rfl)⟩
        ·
          intro ec
          rw [if_neg (by rw [ec]; decide)] at h
          obtain rfl := Option.some.inj h
          exact ⟨rfl, rfl⟩
      ·
        replace h := (if_pos hb10).symm.trans h
        refine zr_pcn 20 rfl ?_
        refine zr_iconstv (v := 1) F zd_XReader_numbers_20 (by decide) ?_
        refine zr_goto F 25 zd_XReader_numbers_21 (by decide) ?_
        refine zr_istore F zd_XReader_numbers_25 (by decide) ?_
        refine zr_iload F zd_XReader_numbers_27 rfl ?_
        refine zr_istore F zd_XReader_numbers_29 (by decide) ?_
        refine zr_iconstv (v := 0) F zd_XReader_numbers_31 (by decide) ?_
        refine zr_istore F zd_XReader_numbers_32 (by decide) ?_
        refine zr_loc (L' := [(0, .ref (b + o)), (2, .int x1_), (3, .int x2_), (4, .int x3_), (5, .int x4_), (6, .int x5_), (7, .int 1), (8, .int x3_), (9, .int 0)]) ⟨rfl, rfl, rfl, rfl, rfl, rfl, rfl, rfl, rfl, trivial⟩ ?_
        obtain ⟨q71, eq71, h⟩ := zoB_s h
        refine zr_loc (L' := [(0, .ref (b + o)), (2, .int x1_), (3, .int x2_), (4, .int x3_), (5, .int x4_), (6, .int x5_), (7, .int 1), (8, .int x3_), (9, .int 0)]) ⟨rfl, rfl, rfl, rfl, rfl, rfl, rfl, rfl, rfl, trivial⟩ ?_
        refine lp_T_XReader_numbers_34 F hl hno _ _ _ _ _ _ _ _ _ _ _ _ eq71 ?_ ?_
        ·
          intro ec
          rw [if_pos ec] at h
          refine zr_iload F zd_XReader_numbers_95 rfl ?_
          refine zr_pcn 97 rfl ?_
          refine zr_if_eq F 120 zd_XReader_numbers_97 (by decide) (fun hb72 => ?_) (fun hb72 => ?_)
          ·
            replace h := (if_pos hb72).symm.trans h
            refine zr_aload_n F zd_XReader_numbers_120 rfl ?_
            refine zr_bipushv (v := 93) F zd_XReader_numbers_121 (by decide) ?_
            obtain ⟨le74, hs73, h⟩ := zoS_s h
            obtain ⟨p75, ep75, h⟩ := zoB_s h
            refine zr_callV1 F (k_XReader_sees l D tA b sh _ ep75) zd_XReader_numbers_123 (zW_o hs73 (by decide)) rfl zs_XReader_49 rfl zq_XReader_sees rfl rfl ⟨(Nat.le_of_ble_eq_true rfl), (Nat.le_of_ble_eq_true rfl)⟩ (Nat.le_of_ble_eq_true rfl) ⟨(Nat.le_of_ble_eq_true rfl), (Nat.le_of_ble_eq_true rfl)⟩ ?_
            refine zr_if_eq F 150 zd_XReader_numbers_126 (by decide) (fun hb76 => ?_) (fun hb76 => ?_)
            ·
              replace h := (if_pos hb76).symm.trans h
              refine zr_aload_n F zd_XReader_numbers_150 rfl ?_
              refine zr_bipushv (v := 93) F zd_XReader_numbers_151 (by decide) ?_
              obtain ⟨le78, hs77, h⟩ := zoS_s h
              cases ep79 : F_XReader_need sh (p75.2) (q71.2.1) 93 with
              | none =>
                rw [ep79] at h
                dsimp only [zoX] at h
                exact zr_thrV F hno (kT_XReader_need l D tA b sh _ hl h) zd_XReader_numbers_153 (zW_o hs77 (by decide)) rfl zs_XReader_45 rfl zq_XReader_need rfl rfl ⟨(Nat.le_of_ble_eq_true rfl), (Nat.le_of_ble_eq_true rfl)⟩ (Nat.le_of_ble_eq_true rfl) ⟨(Nat.le_of_ble_eq_true rfl), (Nat.le_of_ble_eq_true rfl)⟩ ⟨(Nat.le_of_ble_eq_true rfl), (Nat.le_of_ble_eq_true rfl)⟩
              | some p79 =>
                rw [ep79] at h
                dsimp only [zoX] at h
                refine zr_callV0 F (k_XReader_need l D tA b sh _ ep79) zd_XReader_numbers_153 (zW_o hs77 (by decide)) rfl zs_XReader_45 rfl zq_XReader_need rfl rfl ⟨(Nat.le_of_ble_eq_true rfl), (Nat.le_of_ble_eq_true rfl)⟩ (Nat.le_of_ble_eq_true rfl) ⟨(Nat.le_of_ble_eq_true rfl), (Nat.le_of_ble_eq_true rfl)⟩ ?_
                refine zr_pcn 156 rfl ?_
                refine zr_iload F zd_XReader_numbers_156 rfl ?_
                cases h
            ·
              replace h := (if_neg hb76).symm.trans h
              refine zr_iload F zd_XReader_numbers_129 rfl ?_
              refine zr_if_eq F 141 zd_XReader_numbers_131 (by decide) (fun hb80 => ?_) (fun hb80 => ?_)
              ·
                replace h := (if_pos hb80).symm.trans h
                refine zr_aload_n F zd_XReader_numbers_141 rfl ?_
                refine zr_iconstv (v := 3) F zd_XReader_numbers_142 (by decide) ?_
                refine zr_aload_n F zd_XReader_numbers_143 rfl ?_
                obtain ⟨le82, hs81, h⟩ := zoS_s h
                refine zr_get F 7 5 zd_XReader_numbers_144 (zW_o hs81 (by decide)) rfl (by decide) zw_53 rfl (by rfl) ?_
                refine zr_pcn 147 rfl ?_
                obtain ⟨le84, hs83, h⟩ := zoS_s h
                exact zr_thrV F hno (kT_XReader_refuse l D tA b sh _ hl h) zd_XReader_numbers_147 (zW_o hs83 (by decide)) rfl zs_XReader_77 rfl zq_XReader_refuse rfl rfl ⟨(Nat.le_of_ble_eq_true rfl), (Nat.le_of_ble_eq_true rfl)⟩ (Nat.le_of_ble_eq_true rfl) ⟨(Nat.le_of_ble_eq_true rfl), (Nat.le_of_ble_eq_true rfl)⟩ ⟨(Nat.le_of_ble_eq_true rfl), (Nat.le_of_ble_eq_true rfl)⟩
              ·
                replace h := (if_neg hb80).symm.trans h
                refine zr_iload F zd_XReader_numbers_134 rfl ?_
                refine zr_iload_n F zd_XReader_numbers_136 rfl ?_
                obtain ⟨hn86, h⟩ := zoI_s h
                refine zr_irem F zd_XReader_numbers_137 hn86 ?_
                refine zr_if_eq F 150 zd_XReader_numbers_138 (by decide) (fun hb87 => ?_) (fun hb87 => ?_)
                ·
                  replace h := (if_pos hb87).symm.trans h
                  refine zr_aload_n F zd_XReader_numbers_150 rfl ?_
                  refine zr_bipushv (v := 93) F zd_XReader_numbers_151 (by decide) ?_
                  obtain ⟨le89, hs88, h⟩ := zoS_s h
                  cases ep90 : F_XReader_need sh (p75.2) (q71.2.1) 93 with
                  | none =>
                    rw [ep90] at h
                    dsimp only [zoX] at h
                    exact zr_thrV F hno (kT_XReader_need l D tA b sh _ hl h) zd_XReader_numbers_153 (zW_o hs88 (by decide)) rfl zs_XReader_45 rfl zq_XReader_need rfl rfl ⟨(Nat.le_of_ble_eq_true rfl), (Nat.le_of_ble_eq_true rfl)⟩ (Nat.le_of_ble_eq_true rfl) ⟨(Nat.le_of_ble_eq_true rfl), (Nat.le_of_ble_eq_true rfl)⟩ ⟨(Nat.le_of_ble_eq_true rfl), (Nat.le_of_ble_eq_true rfl)⟩
                  | some p90 =>
                    rw [ep90] at h
                    dsimp only [zoX] at h
                    refine zr_callV0 F (k_XReader_need l D tA b sh _ ep90) zd_XReader_numbers_153 (zW_o hs88 (by decide)) rfl zs_XReader_45 rfl zq_XReader_need rfl rfl ⟨(Nat.le_of_ble_eq_true rfl), (Nat.le_of_ble_eq_true rfl)⟩ (Nat.le_of_ble_eq_true rfl) ⟨(Nat.le_of_ble_eq_true rfl), (Nat.le_of_ble_eq_true rfl)⟩ ?_
                    refine zr_pcn 156 rfl ?_
                    refine zr_iload F zd_XReader_numbers_156 rfl ?_
                    cases h
                ·
                  replace h := (if_neg hb87).symm.trans h
                  refine zr_aload_n F zd_XReader_numbers_141 rfl ?_
                  refine zr_iconstv (v := 3) F zd_XReader_numbers_142 (by decide) ?_
                  refine zr_aload_n F zd_XReader_numbers_143 rfl ?_
                  obtain ⟨le92, hs91, h⟩ := zoS_s h
                  refine zr_get F 7 5 zd_XReader_numbers_144 (zW_o hs91 (by decide)) rfl (by decide) zw_53 rfl (by rfl) ?_
                  obtain ⟨le94, hs93, h⟩ := zoS_s h
                  exact zr_thrV F hno (kT_XReader_refuse l D tA b sh _ hl h) zd_XReader_numbers_147 (zW_o hs93 (by decide)) rfl zs_XReader_77 rfl zq_XReader_refuse rfl rfl ⟨(Nat.le_of_ble_eq_true rfl), (Nat.le_of_ble_eq_true rfl)⟩ (Nat.le_of_ble_eq_true rfl) ⟨(Nat.le_of_ble_eq_true rfl), (Nat.le_of_ble_eq_true rfl)⟩ ⟨(Nat.le_of_ble_eq_true rfl), (Nat.le_of_ble_eq_true rfl)⟩
          ·
            replace h := (if_neg hb72).symm.trans h
            refine zr_aload_n F zd_XReader_numbers_100 rfl ?_
            refine zr_pcn 101 rfl ?_
            refine zr_ldcw F zd_XReader_numbers_101 zw_1201 ?_
            refine zr_ldcw F zd_XReader_numbers_104 zw_1195 ?_
            obtain ⟨le97, hs96, h⟩ := zoS_s h
            cases ep98 : F_XReader_needNumber sh (q71.2.2.2.2.2.2.2.2.2.2) (q71.2.1) (-100000000) 100000000 with
            | none =>
              rw [ep98] at h
              dsimp only [zoX] at h
              exact zr_thrV F hno (kT_XReader_needNumber l D tA b sh _ hl h) zd_XReader_numbers_107 (zW_o hs96 (by decide)) rfl zs_XReader_278 rfl zq_XReader_needNumber rfl rfl ⟨(Nat.le_of_ble_eq_true rfl), (Nat.le_of_ble_eq_true rfl)⟩ (Nat.le_of_ble_eq_true rfl) ⟨(Nat.le_of_ble_eq_true rfl), (Nat.le_of_ble_eq_true rfl)⟩ ⟨(Nat.le_of_ble_eq_true rfl), (Nat.le_of_ble_eq_true rfl)⟩
            | some p98 =>
              rw [ep98] at h
              dsimp only [zoX] at h
              refine zr_callV1 F (k_XReader_needNumber l D tA b sh _ ep98) zd_XReader_numbers_107 (zW_o hs96 (by decide)) rfl zs_XReader_278 rfl zq_XReader_needNumber rfl rfl ⟨(Nat.le_of_ble_eq_true rfl), (Nat.le_of_ble_eq_true rfl)⟩ (Nat.le_of_ble_eq_true rfl) ⟨(Nat.le_of_ble_eq_true rfl), (Nat.le_of_ble_eq_true rfl)⟩ ?_
              refine zr_pop F zd_XReader_numbers_110 rfl ?_
              refine zr_aload_n F zd_XReader_numbers_111 rfl ?_
              refine zr_iconstv (v := 3) F zd_XReader_numbers_112 (by decide) ?_
              refine zr_aload_n F zd_XReader_numbers_113 rfl ?_
              obtain ⟨le100, hs99, h⟩ := zoS_s h
              refine zr_get F 7 6 zd_XReader_numbers_114 (zW_o hs99 (by decide)) rfl (by decide) zw_54 rfl (by rfl) ?_
              refine zr_pcn 117 rfl ?_
              obtain ⟨le102, hs101, h⟩ := zoS_s h
              exact zr_thrV F hno (kT_XReader_refuse l D tA b sh _ hl h) zd_XReader_numbers_117 (zW_o hs101 (by decide)) rfl zs_XReader_77 rfl zq_XReader_refuse rfl rfl ⟨(Nat.le_of_ble_eq_true rfl), (Nat.le_of_ble_eq_true rfl)⟩ (Nat.le_of_ble_eq_true rfl) ⟨(Nat.le_of_ble_eq_true rfl), (Nat.le_of_ble_eq_true rfl)⟩ ⟨(Nat.le_of_ble_eq_true rfl), (Nat.le_of_ble_eq_true rfl)⟩
        ·
          intro ec
          rw [if_neg (by rw [ec]; decide)] at h
          obtain rfl := Option.some.inj h
          exact ⟨rfl, rfl⟩
