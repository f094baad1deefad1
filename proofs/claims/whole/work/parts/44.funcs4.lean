abbrev zb_MPainter_beside : ByteArray := prog_16_method_22_code
def zy_MPainter_beside : MethodName := ⟨"OrreryBoxModel$Painter", "beside", "(II)J"⟩
theorem zc_MPainter_beside : Cond.code zy_MPainter_beside zb_MPainter_beside 11 (some .long) ∈ gw := gw_t 2106 (by decide +kernel) rfl
theorem zq_MPainter_beside : zy_MPainter_beside.cls ≠ "java/lang/invoke/MethodHandle" ∧ zy_MPainter_beside.cls ≠ "java/lang/invoke/VarHandle" ∧ (parseMethodDescriptor zy_MPainter_beside.desc).map (fun d => d.parameters.length) = some 2 := by decide +kernel
theorem zd_MPainter_beside_0 : decode zb_MPainter_beside 0 = .ok (.aload_n 0, 1) := by decide +kernel
theorem zd_MPainter_beside_1 : decode zb_MPainter_beside 1 = .ok (.getfield 40, 3) := by decide +kernel
theorem zd_MPainter_beside_4 : decode zb_MPainter_beside 4 = .ok (.bipush 6, 2) := by decide +kernel
theorem zd_MPainter_beside_6 : decode zb_MPainter_beside 6 = .ok (.iload_n 2, 1) := by decide +kernel
theorem zd_MPainter_beside_7 : decode zb_MPainter_beside 7 = .ok (.imul, 1) := by decide +kernel
theorem zd_MPainter_beside_8 : decode zb_MPainter_beside 8 = .ok (.laload, 1) := by decide +kernel
theorem zd_MPainter_beside_9 : decode zb_MPainter_beside 9 = .ok (.lstore_n 3, 1) := by decide +kernel
theorem zd_MPainter_beside_10 : decode zb_MPainter_beside 10 = .ok (.aload_n 0, 1) := by decide +kernel
theorem zd_MPainter_beside_11 : decode zb_MPainter_beside 11 = .ok (.getfield 40, 3) := by decide +kernel
theorem zd_MPainter_beside_14 : decode zb_MPainter_beside 14 = .ok (.bipush 6, 2) := by decide +kernel
theorem zd_MPainter_beside_16 : decode zb_MPainter_beside 16 = .ok (.iload_n 2, 1) := by decide +kernel
theorem zd_MPainter_beside_17 : decode zb_MPainter_beside 17 = .ok (.imul, 1) := by decide +kernel
theorem zd_MPainter_beside_18 : decode zb_MPainter_beside 18 = .ok (.iconst 1, 1) := by decide +kernel
theorem zd_MPainter_beside_19 : decode zb_MPainter_beside 19 = .ok (.iadd, 1) := by decide +kernel
theorem zd_MPainter_beside_20 : decode zb_MPainter_beside 20 = .ok (.laload, 1) := by decide +kernel
theorem zd_MPainter_beside_21 : decode zb_MPainter_beside 21 = .ok (.lstore 5, 2) := by decide +kernel
theorem zd_MPainter_beside_23 : decode zb_MPainter_beside 23 = .ok (.aload_n 0, 1) := by decide +kernel
theorem zd_MPainter_beside_24 : decode zb_MPainter_beside 24 = .ok (.getfield 40, 3) := by decide +kernel
theorem zd_MPainter_beside_27 : decode zb_MPainter_beside 27 = .ok (.bipush 6, 2) := by decide +kernel
theorem zd_MPainter_beside_29 : decode zb_MPainter_beside 29 = .ok (.iload_n 2, 1) := by decide +kernel
theorem zd_MPainter_beside_30 : decode zb_MPainter_beside 30 = .ok (.imul, 1) := by decide +kernel
theorem zd_MPainter_beside_31 : decode zb_MPainter_beside 31 = .ok (.iconst 2, 1) := by decide +kernel
theorem zd_MPainter_beside_32 : decode zb_MPainter_beside 32 = .ok (.iadd, 1) := by decide +kernel
theorem zd_MPainter_beside_33 : decode zb_MPainter_beside 33 = .ok (.laload, 1) := by decide +kernel
theorem zd_MPainter_beside_34 : decode zb_MPainter_beside 34 = .ok (.lstore 7, 2) := by decide +kernel
theorem zd_MPainter_beside_36 : decode zb_MPainter_beside 36 = .ok (.aload_n 0, 1) := by decide +kernel
theorem zd_MPainter_beside_37 : decode zb_MPainter_beside 37 = .ok (.getfield 129, 3) := by decide +kernel
theorem zd_MPainter_beside_40 : decode zb_MPainter_beside 40 = .ok (.getfield 230, 3) := by decide +kernel
theorem zd_MPainter_beside_43 : decode zb_MPainter_beside 43 = .ok (.i2l, 1) := by decide +kernel
theorem zd_MPainter_beside_44 : decode zb_MPainter_beside 44 = .ok (.lstore 9, 2) := by decide +kernel
theorem zd_MPainter_beside_46 : decode zb_MPainter_beside 46 = .ok (.iload_n 1, 1) := by decide +kernel
theorem zd_MPainter_beside_47 : decode zb_MPainter_beside 47 = .ok (.tableswitch 79 0 3 #[29, 36, 50, 64], 29) := by decide +kernel
theorem zd_MPainter_beside_76 : decode zb_MPainter_beside 76 = .ok (.lload 7, 2) := by decide +kernel
theorem zd_MPainter_beside_78 : decode zb_MPainter_beside 78 = .ok (.ldc2_w 86, 3) := by decide +kernel
theorem zd_MPainter_beside_81 : decode zb_MPainter_beside 81 = .ok (.lsub, 1) := by decide +kernel
theorem zd_MPainter_beside_82 : decode zb_MPainter_beside 82 = .ok (.lreturn, 1) := by decide +kernel
theorem zd_MPainter_beside_83 : decode zb_MPainter_beside 83 = .ok (.lload 9, 2) := by decide +kernel
theorem zd_MPainter_beside_85 : decode zb_MPainter_beside 85 = .ok (.lload_n 3, 1) := by decide +kernel
theorem zd_MPainter_beside_86 : decode zb_MPainter_beside 86 = .ok (.lmul, 1) := by decide +kernel
theorem zd_MPainter_beside_87 : decode zb_MPainter_beside 87 = .ok (.aload_n 0, 1) := by decide +kernel
theorem zd_MPainter_beside_88 : decode zb_MPainter_beside 88 = .ok (.getfield 61, 3) := by decide +kernel
theorem zd_MPainter_beside_91 : decode zb_MPainter_beside 91 = .ok (.i2l, 1) := by decide +kernel
theorem zd_MPainter_beside_92 : decode zb_MPainter_beside 92 = .ok (.lload 7, 2) := by decide +kernel
theorem zd_MPainter_beside_94 : decode zb_MPainter_beside 94 = .ok (.lmul, 1) := by decide +kernel
theorem zd_MPainter_beside_95 : decode zb_MPainter_beside 95 = .ok (.ladd, 1) := by decide +kernel
theorem zd_MPainter_beside_96 : decode zb_MPainter_beside 96 = .ok (.lreturn, 1) := by decide +kernel
theorem zd_MPainter_beside_97 : decode zb_MPainter_beside 97 = .ok (.aload_n 0, 1) := by decide +kernel
theorem zd_MPainter_beside_98 : decode zb_MPainter_beside 98 = .ok (.getfield 61, 3) := by decide +kernel
theorem zd_MPainter_beside_101 : decode zb_MPainter_beside 101 = .ok (.i2l, 1) := by decide +kernel
theorem zd_MPainter_beside_102 : decode zb_MPainter_beside 102 = .ok (.lload 7, 2) := by decide +kernel
theorem zd_MPainter_beside_104 : decode zb_MPainter_beside 104 = .ok (.lmul, 1) := by decide +kernel
theorem zd_MPainter_beside_105 : decode zb_MPainter_beside 105 = .ok (.lload 9, 2) := by decide +kernel
theorem zd_MPainter_beside_107 : decode zb_MPainter_beside 107 = .ok (.lload_n 3, 1) := by decide +kernel
theorem zd_MPainter_beside_108 : decode zb_MPainter_beside 108 = .ok (.lmul, 1) := by decide +kernel
theorem zd_MPainter_beside_109 : decode zb_MPainter_beside 109 = .ok (.lsub, 1) := by decide +kernel
theorem zd_MPainter_beside_110 : decode zb_MPainter_beside 110 = .ok (.lreturn, 1) := by decide +kernel
theorem zd_MPainter_beside_111 : decode zb_MPainter_beside 111 = .ok (.lload 9, 2) := by decide +kernel
theorem zd_MPainter_beside_113 : decode zb_MPainter_beside 113 = .ok (.lload 5, 2) := by decide +kernel
theorem zd_MPainter_beside_115 : decode zb_MPainter_beside 115 = .ok (.lmul, 1) := by decide +kernel
theorem zd_MPainter_beside_116 : decode zb_MPainter_beside 116 = .ok (.aload_n 0, 1) := by decide +kernel
theorem zd_MPainter_beside_117 : decode zb_MPainter_beside 117 = .ok (.getfield 65, 3) := by decide +kernel
theorem zd_MPainter_beside_120 : decode zb_MPainter_beside 120 = .ok (.i2l, 1) := by decide +kernel
theorem zd_MPainter_beside_121 : decode zb_MPainter_beside 121 = .ok (.lload 7, 2) := by decide +kernel
theorem zd_MPainter_beside_123 : decode zb_MPainter_beside 123 = .ok (.lmul, 1) := by decide +kernel
theorem zd_MPainter_beside_124 : decode zb_MPainter_beside 124 = .ok (.ladd, 1) := by decide +kernel
theorem zd_MPainter_beside_125 : decode zb_MPainter_beside 125 = .ok (.lreturn, 1) := by decide +kernel
theorem zd_MPainter_beside_126 : decode zb_MPainter_beside 126 = .ok (.aload_n 0, 1) := by decide +kernel
theorem zd_MPainter_beside_127 : decode zb_MPainter_beside 127 = .ok (.getfield 65, 3) := by decide +kernel
theorem zd_MPainter_beside_130 : decode zb_MPainter_beside 130 = .ok (.i2l, 1) := by decide +kernel
theorem zd_MPainter_beside_131 : decode zb_MPainter_beside 131 = .ok (.lload 7, 2) := by decide +kernel
theorem zd_MPainter_beside_133 : decode zb_MPainter_beside 133 = .ok (.lmul, 1) := by decide +kernel
theorem zd_MPainter_beside_134 : decode zb_MPainter_beside 134 = .ok (.lload 9, 2) := by decide +kernel
theorem zd_MPainter_beside_136 : decode zb_MPainter_beside 136 = .ok (.lload 5, 2) := by decide +kernel
theorem zd_MPainter_beside_138 : decode zb_MPainter_beside 138 = .ok (.lmul, 1) := by decide +kernel
theorem zd_MPainter_beside_139 : decode zb_MPainter_beside 139 = .ok (.lsub, 1) := by decide +kernel
theorem zd_MPainter_beside_140 : decode zb_MPainter_beside 140 = .ok (.lreturn, 1) := by decide +kernel
theorem zw_1418 : (Jvm.Cond.fieldLink "OrreryBoxModel$Painter" (230 : Nat) "OrreryBoxModel$Scene" "focus" "I") ∈ gw := gw_t 1418 (by decide +kernel) rfl
def F_MPainter_beside (sh : zSh) (mm : zMem) (o : Nat) (x0_ : Int32) (x1_ : Int32) : Option (Int64 × zMem) := zoS (sh o) 13 (fun le2 => Option.bind (mm.2.2 o 23) (fun a3 => zoL (6 * x1_) (fun i4 => zoS (sh a3) 102 (fun le6 => if (i4 : Int32) < 0 ∨ le6 ≤ (i4 : Int32).toNatClampNeg then none else zoL (mm.2.1 a3 (i4 : Int32).toNatClampNeg) (fun x8 => zoS (sh o) 13 (fun le10 => Option.bind (mm.2.2 o 23) (fun a11 => zoL ((6 * x1_) + 1) (fun i12 => zoS (sh a11) 102 (fun le14 => if (i12 : Int32) < 0 ∨ le14 ≤ (i12 : Int32).toNatClampNeg then none else zoL (mm.2.1 a11 (i12 : Int32).toNatClampNeg) (fun x16 => zoS (sh o) 13 (fun le18 => Option.bind (mm.2.2 o 23) (fun a19 => zoL ((6 * x1_) + 2) (fun i20 => zoS (sh a19) 102 (fun le22 => if (i20 : Int32) < 0 ∨ le22 ≤ (i20 : Int32).toNatClampNeg then none else zoL (mm.2.1 a19 (i20 : Int32).toNatClampNeg) (fun x24 => zoS (sh o) 13 (fun le26 => Option.bind (mm.2.2 o 5) (fun a27 => zoS (sh a27) 15 (fun le29 => zoL (((mm.1 a27 34) : Int32).toInt64) (fun x30 => (if x0_ = 0 then some ((x24 - 4096), mm) else (if x0_ = 1 then zoS (sh o) 13 (fun le33 => some (((x30 * x8) + ((((mm.1 o 1) : Int32).toInt64) * x24)), mm)) else (if x0_ = 2 then zoS (sh o) 13 (fun le35 => some ((((((mm.1 o 1) : Int32).toInt64) * x24) - (x30 * x8)), mm)) else (if x0_ = 3 then zoS (sh o) 13 (fun le37 => some (((x30 * x16) + ((((mm.1 o 2) : Int32).toInt64) * x24)), mm)) else zoS (sh o) 13 (fun le39 => some ((((((mm.1 o 2) : Int32).toInt64) * x24) - (x30 * x16)), mm)))))))))))))))))))))))))
set_option maxHeartbeats 4000000 in
set_option maxRecDepth 100000 in
theorem k_MPainter_beside (l : Launch) (D : va_G) (tA : Nat → ClassId) (b : Nat) (sh : zSh) (n : Nat) {mm : zMem} {o : Nat} {x0_ : Int32} {x1_ : Int32} {r : (Int64 × zMem)} (h : F_MPainter_beside sh mm o x0_ x1_ = some r) : zM l D tA b zy_MPainter_beside zb_MPainter_beside 11 (some .long) 0 0 0 0 [.ref (b + o), .int x0_, .int x1_] (zW tA b sh mm) n (zE (some (.long (r.1))) (zW tA b sh r.2) n) := by
  unfold F_MPainter_beside at h
  refine zM_of (own := "OrreryBoxModel$Painter") (plainFor_of_name (by decide)) rfl (Nat.le_of_ble_eq_true rfl) (fun p e s m below meth c F hr hin hH => ?_)
  refine zr_aload_n F zd_MPainter_beside_0 rfl ?_
  obtain ⟨le2, hs1, h⟩ := zoS_s h
  obtain ⟨a3, ea3, h⟩ := zoB_s h
  refine zr_get F 13 23 zd_MPainter_beside_1 (zW_o hs1 (by decide)) rfl (by decide) zw_1603 rfl (by rfl) ?_
  refine zr_tor ea3 ?_
  refine zr_bipushv (v := 6) F zd_MPainter_beside_4 (by decide) ?_
  refine zr_iload_n F zd_MPainter_beside_6 rfl ?_
  refine zr_imul F zd_MPainter_beside_7 ?_
  obtain ⟨i4, ei4, h⟩ := zoL_s h
  rw [← ei4]
  obtain ⟨le6, hs5, h⟩ := zoS_s h
  obtain ⟨hi7, h⟩ := zoI_s h
  refine zr_lald F zd_MPainter_beside_8 (zW_a2 hs5) hi7 ?_
  obtain ⟨x8, ex8, h⟩ := zoL_s h
  rw [← ex8]
  refine zr_lstore_n F zd_MPainter_beside_9 (by decide) ?_
  refine zr_pcn 10 rfl ?_
  refine zr_aload_n F zd_MPainter_beside_10 rfl ?_
  obtain ⟨le10, hs9, h⟩ := zoS_s h
  obtain ⟨a11, ea11, h⟩ := zoB_s h
  refine zr_get F 13 23 zd_MPainter_beside_11 (zW_o hs9 (by decide)) rfl (by decide) zw_1603 rfl (by rfl) ?_
  refine zr_tor ea11 ?_
  refine zr_bipushv (v := 6) F zd_MPainter_beside_14 (by decide) ?_
  refine zr_iload_n F zd_MPainter_beside_16 rfl ?_
  refine zr_imul F zd_MPainter_beside_17 ?_
  refine zr_iconstv (v := 1) F zd_MPainter_beside_18 (by decide) ?_
  refine zr_iadd F zd_MPainter_beside_19 ?_
  obtain ⟨i12, ei12, h⟩ := zoL_s h
  rw [← ei12]
  obtain ⟨le14, hs13, h⟩ := zoS_s h
  obtain ⟨hi15, h⟩ := zoI_s h
  refine zr_lald F zd_MPainter_beside_20 (zW_a2 hs13) hi15 ?_
  refine zr_pcn 21 rfl ?_
  obtain ⟨x16, ex16, h⟩ := zoL_s h
  rw [← ex16]
  refine zr_lstore F zd_MPainter_beside_21 (by decide) ?_
  refine zr_aload_n F zd_MPainter_beside_23 rfl ?_
  obtain ⟨le18, hs17, h⟩ := zoS_s h
  obtain ⟨a19, ea19, h⟩ := zoB_s h
  refine zr_get F 13 23 zd_MPainter_beside_24 (zW_o hs17 (by decide)) rfl (by decide) zw_1603 rfl (by rfl) ?_
  refine zr_tor ea19 ?_
  refine zr_bipushv (v := 6) F zd_MPainter_beside_27 (by decide) ?_
  refine zr_iload_n F zd_MPainter_beside_29 rfl ?_
  refine zr_imul F zd_MPainter_beside_30 ?_
  refine zr_iconstv (v := 2) F zd_MPainter_beside_31 (by decide) ?_
  refine zr_iadd F zd_MPainter_beside_32 ?_
  refine zr_pcn 33 rfl ?_
  obtain ⟨i20, ei20, h⟩ := zoL_s h
  rw [← ei20]
  obtain ⟨le22, hs21, h⟩ := zoS_s h
  obtain ⟨hi23, h⟩ := zoI_s h
  refine zr_lald F zd_MPainter_beside_33 (zW_a2 hs21) hi23 ?_
  obtain ⟨x24, ex24, h⟩ := zoL_s h
  rw [← ex24]
  refine zr_lstore F zd_MPainter_beside_34 (by decide) ?_
  refine zr_aload_n F zd_MPainter_beside_36 rfl ?_
  obtain ⟨le26, hs25, h⟩ := zoS_s h
  obtain ⟨a27, ea27, h⟩ := zoB_s h
  refine zr_get F 13 5 zd_MPainter_beside_37 (zW_o hs25 (by decide)) rfl (by decide) zw_1581 rfl (by rfl) ?_
  refine zr_tor ea27 ?_
  obtain ⟨le29, hs28, h⟩ := zoS_s h
  refine zr_get F 15 34 zd_MPainter_beside_40 (zW_o hs28 (by decide)) rfl (by decide) zw_1418 rfl (by rfl) ?_
  refine zr_i2l F zd_MPainter_beside_43 ?_
  obtain ⟨x30, ex30, h⟩ := zoL_s h
  rw [← ex30]
  refine zr_lstore F zd_MPainter_beside_44 (by decide) ?_
  refine zr_iload_n F zd_MPainter_beside_46 rfl ?_
  refine zr_pcn 47 rfl ?_
  by_cases hb31_0 : x0_ = 0
  ·
    rw [if_pos hb31_0] at h
    refine zr_tableIn F 76 zd_MPainter_beside_47 (by rw [hb31_0]; decide) (by rw [hb31_0]; decide) (by rw [hb31_0]; rfl) (by decide) ?_
    refine zr_lload F zd_MPainter_beside_76 rfl ?_
    refine zr_ldc2 F zd_MPainter_beside_78 zw_2018 ?_
    refine zr_lsub F zd_MPainter_beside_81 ?_
    obtain rfl := Option.some.inj h
    exact zr_lret F hr zd_MPainter_beside_82 (Nat.le_of_ble_eq_true rfl) (Nat.le_of_ble_eq_true rfl) ⟨rfl, rfl, rfl⟩
  ·
    rw [if_neg hb31_0] at h
    by_cases hb31_1 : x0_ = 1
    ·
      rw [if_pos hb31_1] at h
      refine zr_tableIn F 83 zd_MPainter_beside_47 (by rw [hb31_1]; decide) (by rw [hb31_1]; decide) (by rw [hb31_1]; rfl) (by decide) ?_
      refine zr_lload F zd_MPainter_beside_83 rfl ?_
      refine zr_lload_n F zd_MPainter_beside_85 rfl ?_
      refine zr_lmul F zd_MPainter_beside_86 ?_
      refine zr_pcn 87 rfl ?_
      refine zr_aload_n F zd_MPainter_beside_87 rfl ?_
      obtain ⟨le33, hs32, h⟩ := zoS_s h
      refine zr_get F 13 1 zd_MPainter_beside_88 (zW_o hs32 (by decide)) rfl (by decide) zw_1577 rfl (by rfl) ?_
      refine zr_i2l F zd_MPainter_beside_91 ?_
      refine zr_lload F zd_MPainter_beside_92 rfl ?_
      refine zr_lmul F zd_MPainter_beside_94 ?_
      refine zr_ladd F zd_MPainter_beside_95 ?_
      obtain rfl := Option.some.inj h
      exact zr_lret F hr zd_MPainter_beside_96 (Nat.le_of_ble_eq_true rfl) (Nat.le_of_ble_eq_true rfl) ⟨rfl, rfl, rfl⟩
    ·
      rw [if_neg hb31_1] at h
      by_cases hb31_2 : x0_ = 2
      ·
        rw [if_pos hb31_2] at h
        refine zr_tableIn F 97 zd_MPainter_beside_47 (by rw [hb31_2]; decide) (by rw [hb31_2]; decide) (by rw [hb31_2]; rfl) (by decide) ?_
        refine zr_aload_n F zd_MPainter_beside_97 rfl ?_
        refine zr_pcn 98 rfl ?_
        obtain ⟨le35, hs34, h⟩ := zoS_s h
        refine zr_get F 13 1 zd_MPainter_beside_98 (zW_o hs34 (by decide)) rfl (by decide) zw_1577 rfl (by rfl) ?_
        refine zr_i2l F zd_MPainter_beside_101 ?_
        refine zr_lload F zd_MPainter_beside_102 rfl ?_
        refine zr_lmul F zd_MPainter_beside_104 ?_
        refine zr_lload F zd_MPainter_beside_105 rfl ?_
        refine zr_lload_n F zd_MPainter_beside_107 rfl ?_
        refine zr_lmul F zd_MPainter_beside_108 ?_
        refine zr_lsub F zd_MPainter_beside_109 ?_
        refine zr_pcn 110 rfl ?_
        obtain rfl := Option.some.inj h
        exact zr_lret F hr zd_MPainter_beside_110 (Nat.le_of_ble_eq_true rfl) (Nat.le_of_ble_eq_true rfl) ⟨rfl, rfl, rfl⟩
      ·
        rw [if_neg hb31_2] at h
        by_cases hb31_3 : x0_ = 3
        ·
          rw [if_pos hb31_3] at h
          refine zr_tableIn F 111 zd_MPainter_beside_47 (by rw [hb31_3]; decide) (by rw [hb31_3]; decide) (by rw [hb31_3]; rfl) (by decide) ?_
          refine zr_lload F zd_MPainter_beside_111 rfl ?_
          refine zr_lload F zd_MPainter_beside_113 rfl ?_
          refine zr_lmul F zd_MPainter_beside_115 ?_
          refine zr_aload_n F zd_MPainter_beside_116 rfl ?_
          obtain ⟨le37, hs36, h⟩ := zoS_s h
          refine zr_get F 13 2 zd_MPainter_beside_117 (zW_o hs36 (by decide)) rfl (by decide) zw_1578 rfl (by rfl) ?_
          refine zr_i2l F zd_MPainter_beside_120 ?_
          refine zr_lload F zd_MPainter_beside_121 rfl ?_
          refine zr_pcn 123 rfl ?_
          refine zr_lmul F zd_MPainter_beside_123 ?_
          refine zr_ladd F zd_MPainter_beside_124 ?_
          obtain rfl := Option.some.inj h
          exact zr_lret F hr zd_MPainter_beside_125 (Nat.le_of_ble_eq_true rfl) (Nat.le_of_ble_eq_true rfl) ⟨rfl, rfl, rfl⟩
        ·
          rw [if_neg hb31_3] at h
          refine zr_tableOut F 126 zd_MPainter_beside_47 (zx_out x0_ 0 3 (by decide) (by decide) (by decide) (by omega) (fun j hj => by match j, hj with | 0, _ => exact hb31_0 | 1, _ => exact hb31_1 | 2, _ => exact hb31_2 | 3, _ => exact hb31_3 | j + 4, hq => exact absurd hq (by omega))) (by decide) ?_
          refine zr_aload_n F zd_MPainter_beside_126 rfl ?_
          obtain ⟨le39, hs38, h⟩ := zoS_s h
          refine zr_get F 13 2 zd_MPainter_beside_127 (zW_o hs38 (by decide)) rfl (by decide) zw_1578 rfl (by rfl) ?_
          refine zr_i2l F zd_MPainter_beside_130 ?_
          refine zr_lload F zd_MPainter_beside_131 rfl ?_
          refine zr_lmul F zd_MPainter_beside_133 ?_
          refine zr_pcn 134 rfl ?_
          refine zr_lload F zd_MPainter_beside_134 rfl ?_
          refine zr_lload F zd_MPainter_beside_136 rfl ?_
          refine zr_lmul F zd_MPainter_beside_138 ?_
          refine zr_lsub F zd_MPainter_beside_139 ?_
          obtain rfl := Option.some.inj h
          exact zr_lret F hr zd_MPainter_beside_140 (Nat.le_of_ble_eq_true rfl) (Nat.le_of_ble_eq_true rfl) ⟨rfl, rfl, rfl⟩
abbrev zb_MPainter_cutBy : ByteArray := prog_16_method_23_code
def zy_MPainter_cutBy : MethodName := ⟨"OrreryBoxModel$Painter", "cutBy", "(I)V"⟩
theorem zc_MPainter_cutBy : Cond.code zy_MPainter_cutBy zb_MPainter_cutBy 10 none ∈ gw := gw_t 2102 (by decide +kernel) rfl
theorem zq_MPainter_cutBy : zy_MPainter_cutBy.cls ≠ "java/lang/invoke/MethodHandle" ∧ zy_MPainter_cutBy.cls ≠ "java/lang/invoke/VarHandle" ∧ (parseMethodDescriptor zy_MPainter_cutBy.desc).map (fun d => d.parameters.length) = some 1 := by decide +kernel
theorem zd_MPainter_cutBy_0 : decode zb_MPainter_cutBy 0 = .ok (.iconst 0, 1) := by decide +kernel
theorem zd_MPainter_cutBy_1 : decode zb_MPainter_cutBy 1 = .ok (.istore_n 2, 1) := by decide +kernel
theorem zd_MPainter_cutBy_2 : decode zb_MPainter_cutBy 2 = .ok (.iload_n 2, 1) := by decide +kernel
theorem zd_MPainter_cutBy_3 : decode zb_MPainter_cutBy 3 = .ok (.aload_n 0, 1) := by decide +kernel
theorem zd_MPainter_cutBy_4 : decode zb_MPainter_cutBy 4 = .ok (.getfield 233, 3) := by decide +kernel
theorem zd_MPainter_cutBy_7 : decode zb_MPainter_cutBy 7 = .ok (.if_icmp .ge 21, 3) := by decide +kernel
theorem zd_MPainter_cutBy_10 : decode zb_MPainter_cutBy 10 = .ok (.aload_n 0, 1) := by decide +kernel
theorem zd_MPainter_cutBy_11 : decode zb_MPainter_cutBy 11 = .ok (.getfield 46, 3) := by decide +kernel
theorem zd_MPainter_cutBy_14 : decode zb_MPainter_cutBy 14 = .ok (.iload_n 2, 1) := by decide +kernel
theorem zd_MPainter_cutBy_15 : decode zb_MPainter_cutBy 15 = .ok (.aload_n 0, 1) := by decide +kernel
theorem zd_MPainter_cutBy_16 : decode zb_MPainter_cutBy 16 = .ok (.iload_n 1, 1) := by decide +kernel
theorem zd_MPainter_cutBy_17 : decode zb_MPainter_cutBy 17 = .ok (.iload_n 2, 1) := by decide +kernel
theorem zd_MPainter_cutBy_18 : decode zb_MPainter_cutBy 18 = .ok (.invokevirtual 236, 3) := by decide +kernel
theorem zd_MPainter_cutBy_21 : decode zb_MPainter_cutBy 21 = .ok (.lastore, 1) := by decide +kernel
theorem zd_MPainter_cutBy_22 : decode zb_MPainter_cutBy 22 = .ok (.iinc 2 1, 3) := by decide +kernel
theorem zd_MPainter_cutBy_25 : decode zb_MPainter_cutBy 25 = .ok (.goto (-23), 3) := by decide +kernel
theorem zd_MPainter_cutBy_28 : decode zb_MPainter_cutBy 28 = .ok (.iconst 0, 1) := by decide +kernel
theorem zd_MPainter_cutBy_29 : decode zb_MPainter_cutBy 29 = .ok (.istore_n 2, 1) := by decide +kernel
theorem zd_MPainter_cutBy_30 : decode zb_MPainter_cutBy 30 = .ok (.iconst 0, 1) := by decide +kernel
theorem zd_MPainter_cutBy_31 : decode zb_MPainter_cutBy 31 = .ok (.istore_n 3, 1) := by decide +kernel
theorem zd_MPainter_cutBy_32 : decode zb_MPainter_cutBy 32 = .ok (.iload_n 3, 1) := by decide +kernel
theorem zd_MPainter_cutBy_33 : decode zb_MPainter_cutBy 33 = .ok (.aload_n 0, 1) := by decide +kernel
theorem zd_MPainter_cutBy_34 : decode zb_MPainter_cutBy 34 = .ok (.getfield 233, 3) := by decide +kernel
theorem zd_MPainter_cutBy_37 : decode zb_MPainter_cutBy 37 = .ok (.if_icmp .ge 249, 3) := by decide +kernel
theorem zd_MPainter_cutBy_40 : decode zb_MPainter_cutBy 40 = .ok (.iload_n 3, 1) := by decide +kernel
theorem zd_MPainter_cutBy_41 : decode zb_MPainter_cutBy 41 = .ok (.iconst 1, 1) := by decide +kernel
theorem zd_MPainter_cutBy_42 : decode zb_MPainter_cutBy 42 = .ok (.iadd, 1) := by decide +kernel
theorem zd_MPainter_cutBy_43 : decode zb_MPainter_cutBy 43 = .ok (.aload_n 0, 1) := by decide +kernel
theorem zd_MPainter_cutBy_44 : decode zb_MPainter_cutBy 44 = .ok (.getfield 233, 3) := by decide +kernel
theorem zd_MPainter_cutBy_47 : decode zb_MPainter_cutBy 47 = .ok (.irem, 1) := by decide +kernel
theorem zd_MPainter_cutBy_48 : decode zb_MPainter_cutBy 48 = .ok (.istore 4, 2) := by decide +kernel
theorem zd_MPainter_cutBy_50 : decode zb_MPainter_cutBy 50 = .ok (.aload_n 0, 1) := by decide +kernel
theorem zd_MPainter_cutBy_51 : decode zb_MPainter_cutBy 51 = .ok (.getfield 46, 3) := by decide +kernel
theorem zd_MPainter_cutBy_54 : decode zb_MPainter_cutBy 54 = .ok (.iload_n 3, 1) := by decide +kernel
theorem zd_MPainter_cutBy_55 : decode zb_MPainter_cutBy 55 = .ok (.laload, 1) := by decide +kernel
theorem zd_MPainter_cutBy_56 : decode zb_MPainter_cutBy 56 = .ok (.lconst 0, 1) := by decide +kernel
theorem zd_MPainter_cutBy_57 : decode zb_MPainter_cutBy 57 = .ok (.lcmp, 1) := by decide +kernel
theorem zd_MPainter_cutBy_58 : decode zb_MPainter_cutBy 58 = .ok (.ifCond .lt 46, 3) := by decide +kernel
theorem zd_MPainter_cutBy_61 : decode zb_MPainter_cutBy 61 = .ok (.iconst 0, 1) := by decide +kernel
theorem zd_MPainter_cutBy_62 : decode zb_MPainter_cutBy 62 = .ok (.istore 5, 2) := by decide +kernel
theorem zd_MPainter_cutBy_64 : decode zb_MPainter_cutBy 64 = .ok (.iload 5, 2) := by decide +kernel
theorem zd_MPainter_cutBy_66 : decode zb_MPainter_cutBy 66 = .ok (.bipush 6, 2) := by decide +kernel
theorem zd_MPainter_cutBy_68 : decode zb_MPainter_cutBy 68 = .ok (.if_icmp .ge 33, 3) := by decide +kernel
theorem zd_MPainter_cutBy_71 : decode zb_MPainter_cutBy 71 = .ok (.aload_n 0, 1) := by decide +kernel
theorem zd_MPainter_cutBy_72 : decode zb_MPainter_cutBy 72 = .ok (.getfield 43, 3) := by decide +kernel
theorem zd_MPainter_cutBy_75 : decode zb_MPainter_cutBy 75 = .ok (.bipush 6, 2) := by decide +kernel
theorem zd_MPainter_cutBy_77 : decode zb_MPainter_cutBy 77 = .ok (.iload_n 2, 1) := by decide +kernel
theorem zd_MPainter_cutBy_78 : decode zb_MPainter_cutBy 78 = .ok (.imul, 1) := by decide +kernel
theorem zd_MPainter_cutBy_79 : decode zb_MPainter_cutBy 79 = .ok (.iload 5, 2) := by decide +kernel
theorem zd_MPainter_cutBy_81 : decode zb_MPainter_cutBy 81 = .ok (.iadd, 1) := by decide +kernel
theorem zd_MPainter_cutBy_82 : decode zb_MPainter_cutBy 82 = .ok (.aload_n 0, 1) := by decide +kernel
theorem zd_MPainter_cutBy_83 : decode zb_MPainter_cutBy 83 = .ok (.getfield 40, 3) := by decide +kernel
theorem zd_MPainter_cutBy_86 : decode zb_MPainter_cutBy 86 = .ok (.bipush 6, 2) := by decide +kernel
theorem zd_MPainter_cutBy_88 : decode zb_MPainter_cutBy 88 = .ok (.iload_n 3, 1) := by decide +kernel
theorem zd_MPainter_cutBy_89 : decode zb_MPainter_cutBy 89 = .ok (.imul, 1) := by decide +kernel
theorem zd_MPainter_cutBy_90 : decode zb_MPainter_cutBy 90 = .ok (.iload 5, 2) := by decide +kernel
theorem zd_MPainter_cutBy_92 : decode zb_MPainter_cutBy 92 = .ok (.iadd, 1) := by decide +kernel
theorem zd_MPainter_cutBy_93 : decode zb_MPainter_cutBy 93 = .ok (.laload, 1) := by decide +kernel
theorem zd_MPainter_cutBy_94 : decode zb_MPainter_cutBy 94 = .ok (.lastore, 1) := by decide +kernel
theorem zd_MPainter_cutBy_95 : decode zb_MPainter_cutBy 95 = .ok (.iinc 5 1, 3) := by decide +kernel
theorem zd_MPainter_cutBy_98 : decode zb_MPainter_cutBy 98 = .ok (.goto (-34), 3) := by decide +kernel
theorem zd_MPainter_cutBy_101 : decode zb_MPainter_cutBy 101 = .ok (.iinc 2 1, 3) := by decide +kernel
theorem zd_MPainter_cutBy_104 : decode zb_MPainter_cutBy 104 = .ok (.aload_n 0, 1) := by decide +kernel
theorem zd_MPainter_cutBy_105 : decode zb_MPainter_cutBy 105 = .ok (.getfield 46, 3) := by decide +kernel
theorem zd_MPainter_cutBy_108 : decode zb_MPainter_cutBy 108 = .ok (.iload_n 3, 1) := by decide +kernel
theorem zd_MPainter_cutBy_109 : decode zb_MPainter_cutBy 109 = .ok (.laload, 1) := by decide +kernel
theorem zd_MPainter_cutBy_110 : decode zb_MPainter_cutBy 110 = .ok (.lconst 0, 1) := by decide +kernel
theorem zd_MPainter_cutBy_111 : decode zb_MPainter_cutBy 111 = .ok (.lcmp, 1) := by decide +kernel
theorem zd_MPainter_cutBy_112 : decode zb_MPainter_cutBy 112 = .ok (.ifCond .lt 7, 3) := by decide +kernel
theorem zd_MPainter_cutBy_115 : decode zb_MPainter_cutBy 115 = .ok (.iconst 1, 1) := by decide +kernel
theorem zd_MPainter_cutBy_116 : decode zb_MPainter_cutBy 116 = .ok (.goto 4, 3) := by decide +kernel
theorem zd_MPainter_cutBy_119 : decode zb_MPainter_cutBy 119 = .ok (.iconst 0, 1) := by decide +kernel
theorem zd_MPainter_cutBy_120 : decode zb_MPainter_cutBy 120 = .ok (.aload_n 0, 1) := by decide +kernel
theorem zd_MPainter_cutBy_121 : decode zb_MPainter_cutBy 121 = .ok (.getfield 46, 3) := by decide +kernel
theorem zd_MPainter_cutBy_124 : decode zb_MPainter_cutBy 124 = .ok (.iload 4, 2) := by decide +kernel
theorem zd_MPainter_cutBy_126 : decode zb_MPainter_cutBy 126 = .ok (.laload, 1) := by decide +kernel
theorem zd_MPainter_cutBy_127 : decode zb_MPainter_cutBy 127 = .ok (.lconst 0, 1) := by decide +kernel
theorem zd_MPainter_cutBy_128 : decode zb_MPainter_cutBy 128 = .ok (.lcmp, 1) := by decide +kernel
theorem zd_MPainter_cutBy_129 : decode zb_MPainter_cutBy 129 = .ok (.ifCond .lt 7, 3) := by decide +kernel
theorem zd_MPainter_cutBy_132 : decode zb_MPainter_cutBy 132 = .ok (.iconst 1, 1) := by decide +kernel
theorem zd_MPainter_cutBy_133 : decode zb_MPainter_cutBy 133 = .ok (.goto 4, 3) := by decide +kernel
theorem zd_MPainter_cutBy_136 : decode zb_MPainter_cutBy 136 = .ok (.iconst 0, 1) := by decide +kernel
theorem zd_MPainter_cutBy_137 : decode zb_MPainter_cutBy 137 = .ok (.if_icmp .eq 143, 3) := by decide +kernel
theorem zd_MPainter_cutBy_140 : decode zb_MPainter_cutBy 140 = .ok (.aload_n 0, 1) := by decide +kernel
theorem zd_MPainter_cutBy_141 : decode zb_MPainter_cutBy 141 = .ok (.getfield 46, 3) := by decide +kernel
theorem zd_MPainter_cutBy_144 : decode zb_MPainter_cutBy 144 = .ok (.iload_n 3, 1) := by decide +kernel
theorem zd_MPainter_cutBy_145 : decode zb_MPainter_cutBy 145 = .ok (.laload, 1) := by decide +kernel
theorem zd_MPainter_cutBy_146 : decode zb_MPainter_cutBy 146 = .ok (.lconst 0, 1) := by decide +kernel
theorem zd_MPainter_cutBy_147 : decode zb_MPainter_cutBy 147 = .ok (.lcmp, 1) := by decide +kernel
theorem zd_MPainter_cutBy_148 : decode zb_MPainter_cutBy 148 = .ok (.ifCond .lt 7, 3) := by decide +kernel
theorem zd_MPainter_cutBy_151 : decode zb_MPainter_cutBy 151 = .ok (.iload_n 3, 1) := by decide +kernel
theorem zd_MPainter_cutBy_152 : decode zb_MPainter_cutBy 152 = .ok (.goto 5, 3) := by decide +kernel
theorem zd_MPainter_cutBy_155 : decode zb_MPainter_cutBy 155 = .ok (.iload 4, 2) := by decide +kernel
theorem zd_MPainter_cutBy_157 : decode zb_MPainter_cutBy 157 = .ok (.istore 5, 2) := by decide +kernel
theorem zd_MPainter_cutBy_159 : decode zb_MPainter_cutBy 159 = .ok (.aload_n 0, 1) := by decide +kernel
theorem zd_MPainter_cutBy_160 : decode zb_MPainter_cutBy 160 = .ok (.getfield 46, 3) := by decide +kernel
theorem zd_MPainter_cutBy_163 : decode zb_MPainter_cutBy 163 = .ok (.iload_n 3, 1) := by decide +kernel
theorem zd_MPainter_cutBy_164 : decode zb_MPainter_cutBy 164 = .ok (.laload, 1) := by decide +kernel
theorem zd_MPainter_cutBy_165 : decode zb_MPainter_cutBy 165 = .ok (.lconst 0, 1) := by decide +kernel
theorem zd_MPainter_cutBy_166 : decode zb_MPainter_cutBy 166 = .ok (.lcmp, 1) := by decide +kernel
theorem zd_MPainter_cutBy_167 : decode zb_MPainter_cutBy 167 = .ok (.ifCond .lt 8, 3) := by decide +kernel
theorem zd_MPainter_cutBy_170 : decode zb_MPainter_cutBy 170 = .ok (.iload 4, 2) := by decide +kernel
theorem zd_MPainter_cutBy_172 : decode zb_MPainter_cutBy 172 = .ok (.goto 4, 3) := by decide +kernel
theorem zd_MPainter_cutBy_175 : decode zb_MPainter_cutBy 175 = .ok (.iload_n 3, 1) := by decide +kernel
theorem zd_MPainter_cutBy_176 : decode zb_MPainter_cutBy 176 = .ok (.istore 6, 2) := by decide +kernel
theorem zd_MPainter_cutBy_178 : decode zb_MPainter_cutBy 178 = .ok (.iconst 0, 1) := by decide +kernel
theorem zd_MPainter_cutBy_179 : decode zb_MPainter_cutBy 179 = .ok (.istore 7, 2) := by decide +kernel
theorem zd_MPainter_cutBy_181 : decode zb_MPainter_cutBy 181 = .ok (.iload 7, 2) := by decide +kernel
theorem zd_MPainter_cutBy_183 : decode zb_MPainter_cutBy 183 = .ok (.bipush 6, 2) := by decide +kernel
theorem zd_MPainter_cutBy_185 : decode zb_MPainter_cutBy 185 = .ok (.if_icmp .ge 92, 3) := by decide +kernel
theorem zd_MPainter_cutBy_188 : decode zb_MPainter_cutBy 188 = .ok (.aload_n 0, 1) := by decide +kernel
theorem zd_MPainter_cutBy_189 : decode zb_MPainter_cutBy 189 = .ok (.getfield 40, 3) := by decide +kernel
theorem zd_MPainter_cutBy_192 : decode zb_MPainter_cutBy 192 = .ok (.bipush 6, 2) := by decide +kernel
theorem zd_MPainter_cutBy_194 : decode zb_MPainter_cutBy 194 = .ok (.iload 6, 2) := by decide +kernel
theorem zd_MPainter_cutBy_196 : decode zb_MPainter_cutBy 196 = .ok (.imul, 1) := by decide +kernel
theorem zd_MPainter_cutBy_197 : decode zb_MPainter_cutBy 197 = .ok (.iload 7, 2) := by decide +kernel
theorem zd_MPainter_cutBy_199 : decode zb_MPainter_cutBy 199 = .ok (.iadd, 1) := by decide +kernel
theorem zd_MPainter_cutBy_200 : decode zb_MPainter_cutBy 200 = .ok (.laload, 1) := by decide +kernel
theorem zd_MPainter_cutBy_201 : decode zb_MPainter_cutBy 201 = .ok (.aload_n 0, 1) := by decide +kernel
theorem zd_MPainter_cutBy_202 : decode zb_MPainter_cutBy 202 = .ok (.getfield 40, 3) := by decide +kernel
theorem zd_MPainter_cutBy_205 : decode zb_MPainter_cutBy 205 = .ok (.bipush 6, 2) := by decide +kernel
theorem zd_MPainter_cutBy_207 : decode zb_MPainter_cutBy 207 = .ok (.iload 5, 2) := by decide +kernel
theorem zd_MPainter_cutBy_209 : decode zb_MPainter_cutBy 209 = .ok (.imul, 1) := by decide +kernel
theorem zd_MPainter_cutBy_210 : decode zb_MPainter_cutBy 210 = .ok (.iload 7, 2) := by decide +kernel
theorem zd_MPainter_cutBy_212 : decode zb_MPainter_cutBy 212 = .ok (.iadd, 1) := by decide +kernel
theorem zd_MPainter_cutBy_213 : decode zb_MPainter_cutBy 213 = .ok (.laload, 1) := by decide +kernel
theorem zd_MPainter_cutBy_214 : decode zb_MPainter_cutBy 214 = .ok (.lsub, 1) := by decide +kernel
theorem zd_MPainter_cutBy_215 : decode zb_MPainter_cutBy 215 = .ok (.lstore 8, 2) := by decide +kernel
theorem zd_MPainter_cutBy_217 : decode zb_MPainter_cutBy 217 = .ok (.aload_n 0, 1) := by decide +kernel
theorem zd_MPainter_cutBy_218 : decode zb_MPainter_cutBy 218 = .ok (.getfield 43, 3) := by decide +kernel
theorem zd_MPainter_cutBy_221 : decode zb_MPainter_cutBy 221 = .ok (.bipush 6, 2) := by decide +kernel
theorem zd_MPainter_cutBy_223 : decode zb_MPainter_cutBy 223 = .ok (.iload_n 2, 1) := by decide +kernel
theorem zd_MPainter_cutBy_224 : decode zb_MPainter_cutBy 224 = .ok (.imul, 1) := by decide +kernel
theorem zd_MPainter_cutBy_225 : decode zb_MPainter_cutBy 225 = .ok (.iload 7, 2) := by decide +kernel
theorem zd_MPainter_cutBy_227 : decode zb_MPainter_cutBy 227 = .ok (.iadd, 1) := by decide +kernel
theorem zd_MPainter_cutBy_228 : decode zb_MPainter_cutBy 228 = .ok (.aload_n 0, 1) := by decide +kernel
theorem zd_MPainter_cutBy_229 : decode zb_MPainter_cutBy 229 = .ok (.getfield 40, 3) := by decide +kernel
theorem zd_MPainter_cutBy_232 : decode zb_MPainter_cutBy 232 = .ok (.bipush 6, 2) := by decide +kernel
theorem zd_MPainter_cutBy_234 : decode zb_MPainter_cutBy 234 = .ok (.iload 5, 2) := by decide +kernel
theorem zd_MPainter_cutBy_236 : decode zb_MPainter_cutBy 236 = .ok (.imul, 1) := by decide +kernel
theorem zd_MPainter_cutBy_237 : decode zb_MPainter_cutBy 237 = .ok (.iload 7, 2) := by decide +kernel
theorem zd_MPainter_cutBy_239 : decode zb_MPainter_cutBy 239 = .ok (.iadd, 1) := by decide +kernel
theorem zd_MPainter_cutBy_240 : decode zb_MPainter_cutBy 240 = .ok (.laload, 1) := by decide +kernel
theorem zd_MPainter_cutBy_241 : decode zb_MPainter_cutBy 241 = .ok (.lload 8, 2) := by decide +kernel
theorem zd_MPainter_cutBy_243 : decode zb_MPainter_cutBy 243 = .ok (.aload_n 0, 1) := by decide +kernel
theorem zd_MPainter_cutBy_244 : decode zb_MPainter_cutBy 244 = .ok (.getfield 46, 3) := by decide +kernel
theorem zd_MPainter_cutBy_247 : decode zb_MPainter_cutBy 247 = .ok (.iload 5, 2) := by decide +kernel
theorem zd_MPainter_cutBy_249 : decode zb_MPainter_cutBy 249 = .ok (.laload, 1) := by decide +kernel
theorem zd_MPainter_cutBy_250 : decode zb_MPainter_cutBy 250 = .ok (.lmul, 1) := by decide +kernel
theorem zd_MPainter_cutBy_251 : decode zb_MPainter_cutBy 251 = .ok (.aload_n 0, 1) := by decide +kernel
theorem zd_MPainter_cutBy_252 : decode zb_MPainter_cutBy 252 = .ok (.getfield 46, 3) := by decide +kernel
theorem zd_MPainter_cutBy_255 : decode zb_MPainter_cutBy 255 = .ok (.iload 5, 2) := by decide +kernel
theorem zd_MPainter_cutBy_257 : decode zb_MPainter_cutBy 257 = .ok (.laload, 1) := by decide +kernel
theorem zd_MPainter_cutBy_258 : decode zb_MPainter_cutBy 258 = .ok (.aload_n 0, 1) := by decide +kernel
theorem zd_MPainter_cutBy_259 : decode zb_MPainter_cutBy 259 = .ok (.getfield 46, 3) := by decide +kernel
theorem zd_MPainter_cutBy_262 : decode zb_MPainter_cutBy 262 = .ok (.iload 6, 2) := by decide +kernel
theorem zd_MPainter_cutBy_264 : decode zb_MPainter_cutBy 264 = .ok (.laload, 1) := by decide +kernel
theorem zd_MPainter_cutBy_265 : decode zb_MPainter_cutBy 265 = .ok (.lsub, 1) := by decide +kernel
theorem zd_MPainter_cutBy_266 : decode zb_MPainter_cutBy 266 = .ok (.invokestatic 103, 3) := by decide +kernel
theorem zd_MPainter_cutBy_269 : decode zb_MPainter_cutBy 269 = .ok (.ladd, 1) := by decide +kernel
theorem zd_MPainter_cutBy_270 : decode zb_MPainter_cutBy 270 = .ok (.lastore, 1) := by decide +kernel
theorem zd_MPainter_cutBy_271 : decode zb_MPainter_cutBy 271 = .ok (.iinc 7 1, 3) := by decide +kernel
theorem zd_MPainter_cutBy_274 : decode zb_MPainter_cutBy 274 = .ok (.goto (-93), 3) := by decide +kernel
theorem zd_MPainter_cutBy_277 : decode zb_MPainter_cutBy 277 = .ok (.iinc 2 1, 3) := by decide +kernel
theorem zd_MPainter_cutBy_280 : decode zb_MPainter_cutBy 280 = .ok (.iinc 3 1, 3) := by decide +kernel
theorem zd_MPainter_cutBy_283 : decode zb_MPainter_cutBy 283 = .ok (.goto (-251), 3) := by decide +kernel
theorem zd_MPainter_cutBy_286 : decode zb_MPainter_cutBy 286 = .ok (.aload_n 0, 1) := by decide +kernel
theorem zd_MPainter_cutBy_287 : decode zb_MPainter_cutBy 287 = .ok (.iload_n 2, 1) := by decide +kernel
theorem zd_MPainter_cutBy_288 : decode zb_MPainter_cutBy 288 = .ok (.putfield 233, 3) := by decide +kernel
theorem zd_MPainter_cutBy_291 : decode zb_MPainter_cutBy 291 = .ok (.iconst 0, 1) := by decide +kernel
theorem zd_MPainter_cutBy_292 : decode zb_MPainter_cutBy 292 = .ok (.istore_n 3, 1) := by decide +kernel
theorem zd_MPainter_cutBy_293 : decode zb_MPainter_cutBy 293 = .ok (.iload_n 3, 1) := by decide +kernel
theorem zd_MPainter_cutBy_294 : decode zb_MPainter_cutBy 294 = .ok (.bipush 6, 2) := by decide +kernel
theorem zd_MPainter_cutBy_296 : decode zb_MPainter_cutBy 296 = .ok (.iload_n 2, 1) := by decide +kernel
theorem zd_MPainter_cutBy_297 : decode zb_MPainter_cutBy 297 = .ok (.imul, 1) := by decide +kernel
theorem zd_MPainter_cutBy_298 : decode zb_MPainter_cutBy 298 = .ok (.if_icmp .ge 21, 3) := by decide +kernel
theorem zd_MPainter_cutBy_301 : decode zb_MPainter_cutBy 301 = .ok (.aload_n 0, 1) := by decide +kernel
theorem zd_MPainter_cutBy_302 : decode zb_MPainter_cutBy 302 = .ok (.getfield 40, 3) := by decide +kernel
theorem zd_MPainter_cutBy_305 : decode zb_MPainter_cutBy 305 = .ok (.iload_n 3, 1) := by decide +kernel
theorem zd_MPainter_cutBy_306 : decode zb_MPainter_cutBy 306 = .ok (.aload_n 0, 1) := by decide +kernel
theorem zd_MPainter_cutBy_307 : decode zb_MPainter_cutBy 307 = .ok (.getfield 43, 3) := by decide +kernel
theorem zd_MPainter_cutBy_310 : decode zb_MPainter_cutBy 310 = .ok (.iload_n 3, 1) := by decide +kernel
theorem zd_MPainter_cutBy_311 : decode zb_MPainter_cutBy 311 = .ok (.laload, 1) := by decide +kernel
theorem zd_MPainter_cutBy_312 : decode zb_MPainter_cutBy 312 = .ok (.lastore, 1) := by decide +kernel
theorem zd_MPainter_cutBy_313 : decode zb_MPainter_cutBy 313 = .ok (.iinc 3 1, 3) := by decide +kernel
theorem zd_MPainter_cutBy_316 : decode zb_MPainter_cutBy 316 = .ok (.goto (-23), 3) := by decide +kernel
theorem zd_MPainter_cutBy_319 : decode zb_MPainter_cutBy 319 = .ok (.return_, 1) := by decide +kernel
theorem zw_1606 : (Jvm.Cond.fieldLink "OrreryBoxModel$Painter" (233 : Nat) "OrreryBoxModel$Painter" "corners" "I") ∈ gw := gw_t 1606 (by decide +kernel) rfl
theorem zw_2103 : (Jvm.Cond.methodLink "OrreryBoxModel$Painter" (236 : Nat) ({ cls := "OrreryBoxModel$Painter", name := "beside", desc := "(II)J" } : Jvm.MethodName)) ∈ gw := gw_t 2103 (by decide +kernel) rfl
theorem zw_2105 : (Jvm.Cond.instanceMethod ({ cls := "OrreryBoxModel$Painter", name := "beside", desc := "(II)J" } : Jvm.MethodName)) ∈ gw := gw_t 2105 (by decide +kernel) rfl
theorem zv_106 : (Jvm.Cond.selects "OrreryBoxModel$Painter" (⟨"OrreryBoxModel$Painter", "beside", "(II)J"⟩ : MethodName) ⟨"OrreryBoxModel$Painter", "beside", "(II)J"⟩) ∈ gw := gw_s 106 (by decide +kernel) rfl
theorem zs_MPainter_236 : zwV "OrreryBoxModel$Painter" 236 "OrreryBoxModel$Painter" zy_MPainter_beside zb_MPainter_beside 11 (some .long) := ⟨zw_2103, zw_2105, zv_106, zw_17, zc_MPainter_beside⟩
def L_MPainter_cutBy_2 (sh : zSh) (fuel : Nat) (v0 : Nat) (v1 : Int32) (v2 : Int32) (mm : zMem) : Option (Nat × Int32 × Int32 × zMem) := match fuel with
  | 0 => none
  | fu + 1 => zoS (sh v0) 13 (fun le2 => (if (mm.1 v0 26) ≤ v2 then some (v0, v1, v2, mm) else zoS (sh v0) 13 (fun le5 => Option.bind (mm.2.2 v0 25) (fun a6 => zoS (sh v0) 13 (fun le8 => Option.bind (F_MPainter_beside sh mm v0 v1 v2) (fun p9 => zoS (sh a6) 102 (fun le11 => if (v2 : Int32) < 0 ∨ le11 ≤ (v2 : Int32).toNatClampNeg then none else zoL (mL (p9.2) a6 (v2 : Int32).toNatClampNeg (p9.1)) (fun mm13 => L_MPainter_cutBy_2 sh fu v0 v1 (v2 + 1) mm13))))))))
set_option maxHeartbeats 4000000 in
set_option maxRecDepth 100000 in
theorem lp_MPainter_cutBy_2 {p : Program} {l : Launch} {e : Env} {s : State} {m : MethodId} {args : Array Value} {below : List Frame} {meth : Method} {c : Code} {D : va_G} {tA : Nat → ClassId} {b n : Nat} {post : Option Value → zV → Nat → Prop} {sh : zSh} (F : zF p s m args meth c zb_MPainter_cutBy 10 "OrreryBoxModel$Painter" D tA b) : ∀ (fuel : Nat) (v0 : Nat) (v1 : Int32) (v2 : Int32) (mm : zMem) (r : Nat × Int32 × Int32 × zMem), L_MPainter_cutBy_2 sh fuel v0 v1 v2 mm = some r → (Z p l e { frames := 2, cells := 0, slots := 0, locals := 48 } s m args below meth c D b 10 (MQ below (zQ D b post) args s 0 0 (fun q => b ≤ q)) (zW tA b sh r.2.2.2) n 0 0 28 [(0, .ref (b + (r.1))), (1, .int (r.2.1)), (2, .int (r.2.2.1))] []) → Z p l e { frames := 2, cells := 0, slots := 0, locals := 48 } s m args below meth c D b 10 (MQ below (zQ D b post) args s 0 0 (fun q => b ≤ q)) (zW tA b sh mm) n 0 0 2 [(0, .ref (b + v0)), (1, .int v1), (2, .int v2)] [] := by
  intro fuel
  induction fuel with
  | zero =>
    intro v0 v1 v2 mm r h
    cases h
  | succ fu ih =>
    intro v0 v1 v2 mm r h hx0
    rw [L_MPainter_cutBy_2] at h
    refine zr_iload_n F zd_MPainter_cutBy_2 rfl ?_
    refine zr_aload_n F zd_MPainter_cutBy_3 rfl ?_
    obtain ⟨le2, hs1, h⟩ := zoS_s h
    refine zr_get F 13 26 zd_MPainter_cutBy_4 (zW_o hs1 (by decide)) rfl (by decide) zw_1606 rfl (by rfl) ?_
    refine zr_icmp_ge F 28 zd_MPainter_cutBy_7 (by decide) (fun hb3 => ?_) (fun hb3 => ?_)
    ·
      rw [if_pos hb3] at h
      obtain rfl := Option.some.inj h
      refine zr_loc (L' := [(0, .ref (b + v0)), (1, .int v1), (2, .int v2)]) ⟨rfl, rfl, rfl, trivial⟩ ?_
      exact hx0 
    ·
      rw [if_neg hb3] at h
      refine zr_aload_n F zd_MPainter_cutBy_10 rfl ?_
      refine zr_pcn 11 rfl ?_
      obtain ⟨le5, hs4, h⟩ := zoS_s h
      obtain ⟨a6, ea6, h⟩ := zoB_s h
      refine zr_get F 13 25 zd_MPainter_cutBy_11 (zW_o hs4 (by decide)) rfl (by decide) zw_1605 rfl (by rfl) ?_
      refine zr_tor ea6 ?_
      refine zr_iload_n F zd_MPainter_cutBy_14 rfl ?_
      refine zr_aload_n F zd_MPainter_cutBy_15 rfl ?_
      refine zr_iload_n F zd_MPainter_cutBy_16 rfl ?_
      refine zr_iload_n F zd_MPainter_cutBy_17 rfl ?_
      obtain ⟨le8, hs7, h⟩ := zoS_s h
      obtain ⟨p9, ep9, h⟩ := zoB_s h
      refine zr_callV1 F (k_MPainter_beside l D tA b sh _ ep9) zd_MPainter_cutBy_18 (zW_o hs7 (by decide)) rfl zs_MPainter_236 rfl zq_MPainter_beside rfl rfl ⟨(Nat.le_of_ble_eq_true rfl), (Nat.le_of_ble_eq_true rfl)⟩ (Nat.le_of_ble_eq_true rfl) ⟨(Nat.le_of_ble_eq_true rfl), (Nat.le_of_ble_eq_true rfl)⟩ ?_
      obtain ⟨le11, hs10, h⟩ := zoS_s h
      obtain ⟨hi12, h⟩ := zoI_s h
      refine zr_last F zd_MPainter_cutBy_21 (zW_a2 hs10) hi12 ?_
      obtain ⟨mm13, emm13, h⟩ := zoL_s h
      refine zr_norm (zW tA b sh mm13) _ (by rw [emm13]; exact zW_s2 hs10) rfl ?_
      refine zr_iinc (v := (v2 + 1)) F zd_MPainter_cutBy_22 rfl rfl (by decide) ?_
      refine zr_pcn 25 rfl ?_
      refine zr_goto F 2 zd_MPainter_cutBy_25 (by decide) ?_
      refine zr_loc (L' := [(0, .ref (b + v0)), (1, .int v1), (2, .int (v2 + 1))]) ⟨rfl, rfl, rfl, trivial⟩ ?_
      exact ih _ _ _ _ _ h hx0
def L_MPainter_cutBy_181 (sh : zSh) (fuel : Nat) (v0 : Nat) (v2 : Int32) (v3 : Int32) (v5 : Int32) (v6 : Int32) (v7 : Int32) (mm : zMem) : Option (Nat × Int32 × Int32 × Int32 × Int32 × Int32 × zMem) := match fuel with
  | 0 => none
  | fu + 1 => (if 6 ≤ v7 then some (v0, v2, v3, v5, v6, v7, mm) else zoS (sh v0) 13 (fun le59 => Option.bind (mm.2.2 v0 23) (fun a60 => zoL ((6 * v6) + v7) (fun i61 => zoS (sh a60) 102 (fun le63 => if (i61 : Int32) < 0 ∨ le63 ≤ (i61 : Int32).toNatClampNeg then none else zoS (sh v0) 13 (fun le66 => Option.bind (mm.2.2 v0 23) (fun a67 => zoL ((6 * v5) + v7) (fun i68 => zoS (sh a67) 102 (fun le70 => if (i68 : Int32) < 0 ∨ le70 ≤ (i68 : Int32).toNatClampNeg then none else zoL ((mm.2.1 a60 (i61 : Int32).toNatClampNeg) - (mm.2.1 a67 (i68 : Int32).toNatClampNeg)) (fun x72 => zoS (sh v0) 13 (fun le74 => Option.bind (mm.2.2 v0 24) (fun a75 => zoS (sh v0) 13 (fun le77 => Option.bind (mm.2.2 v0 23) (fun a78 => zoL ((6 * v5) + v7) (fun i79 => zoS (sh a78) 102 (fun le81 => if (i79 : Int32) < 0 ∨ le81 ≤ (i79 : Int32).toNatClampNeg then none else zoS (sh v0) 13 (fun le84 => Option.bind (mm.2.2 v0 25) (fun a85 => zoS (sh a85) 102 (fun le87 => if (v5 : Int32) < 0 ∨ le87 ≤ (v5 : Int32).toNatClampNeg then none else zoS (sh v0) 13 (fun le90 => Option.bind (mm.2.2 v0 25) (fun a91 => zoS (sh a91) 102 (fun le93 => if (v5 : Int32) < 0 ∨ le93 ≤ (v5 : Int32).toNatClampNeg then none else zoS (sh v0) 13 (fun le96 => Option.bind (mm.2.2 v0 25) (fun a97 => zoS (sh a97) 102 (fun le99 => if (v6 : Int32) < 0 ∨ le99 ≤ (v6 : Int32).toNatClampNeg then none else zoL (x72 * (mm.2.1 a85 (v5 : Int32).toNatClampNeg)) (fun x101 => zoL ((mm.2.1 a91 (v5 : Int32).toNatClampNeg) - (mm.2.1 a97 (v6 : Int32).toNatClampNeg)) (fun x102 => Option.bind (F_MPainter_div sh mm x101 x102) (fun p103 => zoL ((mm.2.1 a78 (i79 : Int32).toNatClampNeg) + p103.1) (fun x104 => zoL ((6 * v2) + v7) (fun i105 => zoS (sh a75) 102 (fun le107 => if (i105 : Int32) < 0 ∨ le107 ≤ (i105 : Int32).toNatClampNeg then none else zoL (mL (p103.2) a75 (i105 : Int32).toNatClampNeg x104) (fun mm109 => L_MPainter_cutBy_181 sh fu v0 v2 v3 v5 v6 (v7 + 1) mm109))))))))))))))))))))))))))))))))
set_option maxHeartbeats 4000000 in
set_option maxRecDepth 100000 in
theorem lp_MPainter_cutBy_181 {p : Program} {l : Launch} {e : Env} {s : State} {m : MethodId} {args : Array Value} {below : List Frame} {meth : Method} {c : Code} {D : va_G} {tA : Nat → ClassId} {b n : Nat} {post : Option Value → zV → Nat → Prop} {sh : zSh} (F : zF p s m args meth c zb_MPainter_cutBy 10 "OrreryBoxModel$Painter" D tA b) : ∀ (fuel : Nat) (v0 : Nat) (v2 : Int32) (v3 : Int32) (v5 : Int32) (v6 : Int32) (v7 : Int32) (mm : zMem) (r : Nat × Int32 × Int32 × Int32 × Int32 × Int32 × zMem), L_MPainter_cutBy_181 sh fuel v0 v2 v3 v5 v6 v7 mm = some r → (Z p l e { frames := 2, cells := 0, slots := 0, locals := 48 } s m args below meth c D b 10 (MQ below (zQ D b post) args s 0 0 (fun q => b ≤ q)) (zW tA b sh r.2.2.2.2.2.2) n 0 0 277 [(0, .ref (b + (r.1))), (2, .int (r.2.1)), (3, .int (r.2.2.1)), (5, .int (r.2.2.2.1)), (6, .int (r.2.2.2.2.1)), (7, .int (r.2.2.2.2.2.1))] []) → Z p l e { frames := 2, cells := 0, slots := 0, locals := 48 } s m args below meth c D b 10 (MQ below (zQ D b post) args s 0 0 (fun q => b ≤ q)) (zW tA b sh mm) n 0 0 181 [(0, .ref (b + v0)), (2, .int v2), (3, .int v3), (5, .int v5), (6, .int v6), (7, .int v7)] [] := by
  intro fuel
  induction fuel with
  | zero =>
    intro v0 v2 v3 v5 v6 v7 mm r h
    cases h
  | succ fu ih =>
    intro v0 v2 v3 v5 v6 v7 mm r h hx0
    rw [L_MPainter_cutBy_181] at h
    refine zr_iload F zd_MPainter_cutBy_181 rfl ?_
    refine zr_bipushv (v := 6) F zd_MPainter_cutBy_183 (by decide) ?_
    refine zr_icmp_ge F 277 zd_MPainter_cutBy_185 (by decide) (fun hb57 => ?_) (fun hb57 => ?_)
    ·
      rw [if_pos hb57] at h
      obtain rfl := Option.some.inj h
      refine zr_loc (L' := [(0, .ref (b + v0)), (2, .int v2), (3, .int v3), (5, .int v5), (6, .int v6), (7, .int v7)]) ⟨rfl, rfl, rfl, rfl, rfl, rfl, trivial⟩ ?_
      exact hx0 
    ·
      rw [if_neg hb57] at h
      refine zr_aload_n F zd_MPainter_cutBy_188 rfl ?_
      obtain ⟨le59, hs58, h⟩ := zoS_s h
      obtain ⟨a60, ea60, h⟩ := zoB_s h
      refine zr_get F 13 23 zd_MPainter_cutBy_189 (zW_o hs58 (by decide)) rfl (by decide) zw_1603 rfl (by rfl) ?_
      refine zr_tor ea60 ?_
      refine zr_bipushv (v := 6) F zd_MPainter_cutBy_192 (by decide) ?_
      refine zr_iload F zd_MPainter_cutBy_194 rfl ?_
      refine zr_pcn 196 rfl ?_
      refine zr_imul F zd_MPainter_cutBy_196 ?_
      refine zr_iload F zd_MPainter_cutBy_197 rfl ?_
      refine zr_iadd F zd_MPainter_cutBy_199 ?_
      obtain ⟨i61, ei61, h⟩ := zoL_s h
      rw [← ei61]
      obtain ⟨le63, hs62, h⟩ := zoS_s h
      obtain ⟨hi64, h⟩ := zoI_s h
      refine zr_lald F zd_MPainter_cutBy_200 (zW_a2 hs62) hi64 ?_
      refine zr_aload_n F zd_MPainter_cutBy_201 rfl ?_
      obtain ⟨le66, hs65, h⟩ := zoS_s h
      obtain ⟨a67, ea67, h⟩ := zoB_s h
      refine zr_get F 13 23 zd_MPainter_cutBy_202 (zW_o hs65 (by decide)) rfl (by decide) zw_1603 rfl (by rfl) ?_
      refine zr_tor ea67 ?_
      refine zr_bipushv (v := 6) F zd_MPainter_cutBy_205 (by decide) ?_
      refine zr_iload F zd_MPainter_cutBy_207 rfl ?_
      refine zr_pcn 209 rfl ?_
      refine zr_imul F zd_MPainter_cutBy_209 ?_
      refine zr_iload F zd_MPainter_cutBy_210 rfl ?_
      refine zr_iadd F zd_MPainter_cutBy_212 ?_
      obtain ⟨i68, ei68, h⟩ := zoL_s h
      rw [← ei68]
      obtain ⟨le70, hs69, h⟩ := zoS_s h
      obtain ⟨hi71, h⟩ := zoI_s h
      refine zr_lald F zd_MPainter_cutBy_213 (zW_a2 hs69) hi71 ?_
      refine zr_lsub F zd_MPainter_cutBy_214 ?_
      obtain ⟨x72, ex72, h⟩ := zoL_s h
      rw [← ex72]
      refine zr_lstore F zd_MPainter_cutBy_215 (by decide) ?_
      refine zr_aload_n F zd_MPainter_cutBy_217 rfl ?_
      obtain ⟨le74, hs73, h⟩ := zoS_s h
      obtain ⟨a75, ea75, h⟩ := zoB_s h
      refine zr_get F 13 24 zd_MPainter_cutBy_218 (zW_o hs73 (by decide)) rfl (by decide) zw_1604 rfl (by rfl) ?_
      refine zr_tor ea75 ?_
      refine zr_pcn 221 rfl ?_
      refine zr_bipushv (v := 6) F zd_MPainter_cutBy_221 (by decide) ?_
      refine zr_iload_n F zd_MPainter_cutBy_223 rfl ?_
      refine zr_imul F zd_MPainter_cutBy_224 ?_
      refine zr_iload F zd_MPainter_cutBy_225 rfl ?_
      refine zr_iadd F zd_MPainter_cutBy_227 ?_
      refine zr_aload_n F zd_MPainter_cutBy_228 rfl ?_
      obtain ⟨le77, hs76, h⟩ := zoS_s h
      obtain ⟨a78, ea78, h⟩ := zoB_s h
      refine zr_get F 13 23 zd_MPainter_cutBy_229 (zW_o hs76 (by decide)) rfl (by decide) zw_1603 rfl (by rfl) ?_
      refine zr_tor ea78 ?_
      refine zr_bipushv (v := 6) F zd_MPainter_cutBy_232 (by decide) ?_
      refine zr_pcn 234 rfl ?_
      refine zr_iload F zd_MPainter_cutBy_234 rfl ?_
      refine zr_imul F zd_MPainter_cutBy_236 ?_
      refine zr_iload F zd_MPainter_cutBy_237 rfl ?_
      refine zr_iadd F zd_MPainter_cutBy_239 ?_
      obtain ⟨i79, ei79, h⟩ := zoL_s h
      rw [← ei79]
      obtain ⟨le81, hs80, h⟩ := zoS_s h
      obtain ⟨hi82, h⟩ := zoI_s h
      refine zr_lald F zd_MPainter_cutBy_240 (zW_a2 hs80) hi82 ?_
      refine zr_lload F zd_MPainter_cutBy_241 rfl ?_
      refine zr_aload_n F zd_MPainter_cutBy_243 rfl ?_
      obtain ⟨le84, hs83, h⟩ := zoS_s h
      obtain ⟨a85, ea85, h⟩ := zoB_s h
      refine zr_get F 13 25 zd_MPainter_cutBy_244 (zW_o hs83 (by decide)) rfl (by decide) zw_1605 rfl (by rfl) ?_
      refine zr_tor ea85 ?_
      refine zr_pcn 247 rfl ?_
      refine zr_iload F zd_MPainter_cutBy_247 rfl ?_
      obtain ⟨le87, hs86, h⟩ := zoS_s h
      obtain ⟨hi88, h⟩ := zoI_s h
      refine zr_lald F zd_MPainter_cutBy_249 (zW_a2 hs86) hi88 ?_
      refine zr_lmul F zd_MPainter_cutBy_250 ?_
      refine zr_aload_n F zd_MPainter_cutBy_251 rfl ?_
      obtain ⟨le90, hs89, h⟩ := zoS_s h
      obtain ⟨a91, ea91, h⟩ := zoB_s h
      refine zr_get F 13 25 zd_MPainter_cutBy_252 (zW_o hs89 (by decide)) rfl (by decide) zw_1605 rfl (by rfl) ?_
      refine zr_tor ea91 ?_
      refine zr_iload F zd_MPainter_cutBy_255 rfl ?_
      obtain ⟨le93, hs92, h⟩ := zoS_s h
      obtain ⟨hi94, h⟩ := zoI_s h
      refine zr_lald F zd_MPainter_cutBy_257 (zW_a2 hs92) hi94 ?_
      refine zr_aload_n F zd_MPainter_cutBy_258 rfl ?_
      refine zr_pcn 259 rfl ?_
      obtain ⟨le96, hs95, h⟩ := zoS_s h
      obtain ⟨a97, ea97, h⟩ := zoB_s h
      refine zr_get F 13 25 zd_MPainter_cutBy_259 (zW_o hs95 (by decide)) rfl (by decide) zw_1605 rfl (by rfl) ?_
      refine zr_tor ea97 ?_
      refine zr_iload F zd_MPainter_cutBy_262 rfl ?_
      obtain ⟨le99, hs98, h⟩ := zoS_s h
      obtain ⟨hi100, h⟩ := zoI_s h
      refine zr_lald F zd_MPainter_cutBy_264 (zW_a2 hs98) hi100 ?_
      refine zr_lsub F zd_MPainter_cutBy_265 ?_
      obtain ⟨x101, ex101, h⟩ := zoL_s h
      rw [← ex101]
      obtain ⟨x102, ex102, h⟩ := zoL_s h
      rw [← ex102]
      obtain ⟨p103, ep103, h⟩ := zoB_s h
      refine zr_callS1 F (k_MPainter_div l D tA b sh _ ep103) zd_MPainter_cutBy_266 zs_MPainter_103 zq_MPainter_div rfl rfl ⟨(Nat.le_of_ble_eq_true rfl), (Nat.le_of_ble_eq_true rfl)⟩ (Nat.le_of_ble_eq_true rfl) ⟨(Nat.le_of_ble_eq_true rfl), (Nat.le_of_ble_eq_true rfl)⟩ ?_
      refine zr_ladd F zd_MPainter_cutBy_269 ?_
      obtain ⟨x104, ex104, h⟩ := zoL_s h
      rw [← ex104]
      obtain ⟨i105, ei105, h⟩ := zoL_s h
      rw [← ei105]
      obtain ⟨le107, hs106, h⟩ := zoS_s h
      obtain ⟨hi108, h⟩ := zoI_s h
      refine zr_last F zd_MPainter_cutBy_270 (zW_a2 hs106) hi108 ?_
      obtain ⟨mm109, emm109, h⟩ := zoL_s h
      refine zr_norm (zW tA b sh mm109) _ (by rw [emm109]; exact zW_s2 hs106) rfl ?_
      refine zr_iinc (v := (v7 + 1)) F zd_MPainter_cutBy_271 rfl rfl (by decide) ?_
      refine zr_pcn 274 rfl ?_
      refine zr_goto F 181 zd_MPainter_cutBy_274 (by decide) ?_
      refine zr_loc (L' := [(0, .ref (b + v0)), (2, .int v2), (3, .int v3), (5, .int v5), (6, .int v6), (7, .int (v7 + 1))]) ⟨rfl, rfl, rfl, rfl, rfl, rfl, trivial⟩ ?_
      exact ih _ _ _ _ _ _ _ _ h hx0
def L_MPainter_cutBy_64 (sh : zSh) (fuel : Nat) (v0 : Nat) (v2 : Int32) (v3 : Int32) (v4 : Int32) (v5 : Int32) (mm : zMem) : Option (Nat × Int32 × Int32 × Int32 × Int32 × zMem) := match fuel with
  | 0 => none
  | fu + 1 => (if 6 ≤ v5 then some (v0, v2, v3, v4, v5, mm) else zoS (sh v0) 13 (fun le155 => Option.bind (mm.2.2 v0 24) (fun a156 => zoS (sh v0) 13 (fun le158 => Option.bind (mm.2.2 v0 23) (fun a159 => zoL ((6 * v3) + v5) (fun i160 => zoS (sh a159) 102 (fun le162 => if (i160 : Int32) < 0 ∨ le162 ≤ (i160 : Int32).toNatClampNeg then none else zoL (mm.2.1 a159 (i160 : Int32).toNatClampNeg) (fun x164 => zoL ((6 * v2) + v5) (fun i165 => zoS (sh a156) 102 (fun le167 => if (i165 : Int32) < 0 ∨ le167 ≤ (i165 : Int32).toNatClampNeg then none else zoL (mL mm a156 (i165 : Int32).toNatClampNeg x164) (fun mm169 => L_MPainter_cutBy_64 sh fu v0 v2 v3 v4 (v5 + 1) mm169)))))))))))
set_option maxHeartbeats 4000000 in
set_option maxRecDepth 100000 in
theorem lp_MPainter_cutBy_64 {p : Program} {l : Launch} {e : Env} {s : State} {m : MethodId} {args : Array Value} {below : List Frame} {meth : Method} {c : Code} {D : va_G} {tA : Nat → ClassId} {b n : Nat} {post : Option Value → zV → Nat → Prop} {sh : zSh} (F : zF p s m args meth c zb_MPainter_cutBy 10 "OrreryBoxModel$Painter" D tA b) : ∀ (fuel : Nat) (v0 : Nat) (v2 : Int32) (v3 : Int32) (v4 : Int32) (v5 : Int32) (mm : zMem) (r : Nat × Int32 × Int32 × Int32 × Int32 × zMem), L_MPainter_cutBy_64 sh fuel v0 v2 v3 v4 v5 mm = some r → (Z p l e { frames := 2, cells := 0, slots := 0, locals := 48 } s m args below meth c D b 10 (MQ below (zQ D b post) args s 0 0 (fun q => b ≤ q)) (zW tA b sh r.2.2.2.2.2) n 0 0 101 [(0, .ref (b + (r.1))), (2, .int (r.2.1)), (3, .int (r.2.2.1)), (4, .int (r.2.2.2.1)), (5, .int (r.2.2.2.2.1))] []) → Z p l e { frames := 2, cells := 0, slots := 0, locals := 48 } s m args below meth c D b 10 (MQ below (zQ D b post) args s 0 0 (fun q => b ≤ q)) (zW tA b sh mm) n 0 0 64 [(0, .ref (b + v0)), (2, .int v2), (3, .int v3), (4, .int v4), (5, .int v5)] [] := by
  intro fuel
  induction fuel with
  | zero =>
    intro v0 v2 v3 v4 v5 mm r h
    cases h
  | succ fu ih =>
    intro v0 v2 v3 v4 v5 mm r h hx0
    rw [L_MPainter_cutBy_64] at h
    refine zr_iload F zd_MPainter_cutBy_64 rfl ?_
    refine zr_pcn 66 rfl ?_
    refine zr_bipushv (v := 6) F zd_MPainter_cutBy_66 (by decide) ?_
    refine zr_icmp_ge F 101 zd_MPainter_cutBy_68 (by decide) (fun hb153 => ?_) (fun hb153 => ?_)
    ·
      rw [if_pos hb153] at h
      obtain rfl := Option.some.inj h
      refine zr_loc (L' := [(0, .ref (b + v0)), (2, .int v2), (3, .int v3), (4, .int v4), (5, .int v5)]) ⟨rfl, rfl, rfl, rfl, rfl, trivial⟩ ?_
      exact hx0 
    ·
      rw [if_neg hb153] at h
      refine zr_aload_n F zd_MPainter_cutBy_71 rfl ?_
      obtain ⟨le155, hs154, h⟩ := zoS_s h
      obtain ⟨a156, ea156, h⟩ := zoB_s h
      refine zr_get F 13 24 zd_MPainter_cutBy_72 (zW_o hs154 (by decide)) rfl (by decide) zw_1604 rfl (by rfl) ?_
      refine zr_tor ea156 ?_
      refine zr_bipushv (v := 6) F zd_MPainter_cutBy_75 (by decide) ?_
      refine zr_iload_n F zd_MPainter_cutBy_77 rfl ?_
      refine zr_imul F zd_MPainter_cutBy_78 ?_
      refine zr_iload F zd_MPainter_cutBy_79 rfl ?_
      refine zr_pcn 81 rfl ?_
      refine zr_iadd F zd_MPainter_cutBy_81 ?_
      refine zr_aload_n F zd_MPainter_cutBy_82 rfl ?_
      obtain ⟨le158, hs157, h⟩ := zoS_s h
      obtain ⟨a159, ea159, h⟩ := zoB_s h
      refine zr_get F 13 23 zd_MPainter_cutBy_83 (zW_o hs157 (by decide)) rfl (by decide) zw_1603 rfl (by rfl) ?_
      refine zr_tor ea159 ?_
      refine zr_bipushv (v := 6) F zd_MPainter_cutBy_86 (by decide) ?_
      refine zr_iload_n F zd_MPainter_cutBy_88 rfl ?_
      refine zr_imul F zd_MPainter_cutBy_89 ?_
      refine zr_iload F zd_MPainter_cutBy_90 rfl ?_
      refine zr_iadd F zd_MPainter_cutBy_92 ?_
      refine zr_pcn 93 rfl ?_
      obtain ⟨i160, ei160, h⟩ := zoL_s h
      rw [← ei160]
      obtain ⟨le162, hs161, h⟩ := zoS_s h
      obtain ⟨hi163, h⟩ := zoI_s h
      refine zr_lald F zd_MPainter_cutBy_93 (zW_a2 hs161) hi163 ?_
      obtain ⟨x164, ex164, h⟩ := zoL_s h
      rw [← ex164]
      obtain ⟨i165, ei165, h⟩ := zoL_s h
      rw [← ei165]
      obtain ⟨le167, hs166, h⟩ := zoS_s h
      obtain ⟨hi168, h⟩ := zoI_s h
      refine zr_last F zd_MPainter_cutBy_94 (zW_a2 hs166) hi168 ?_
      obtain ⟨mm169, emm169, h⟩ := zoL_s h
      refine zr_norm (zW tA b sh mm169) _ (by rw [emm169]; exact zW_s2 hs166) rfl ?_
      refine zr_iinc (v := (v5 + 1)) F zd_MPainter_cutBy_95 rfl rfl (by decide) ?_
      refine zr_goto F 64 zd_MPainter_cutBy_98 (by decide) ?_
      refine zr_loc (L' := [(0, .ref (b + v0)), (2, .int v2), (3, .int v3), (4, .int v4), (5, .int (v5 + 1))]) ⟨rfl, rfl, rfl, rfl, rfl, trivial⟩ ?_
      exact ih _ _ _ _ _ _ _ h hx0
def L_MPainter_cutBy_32 (sh : zSh) (fuel : Nat) (v0 : Nat) (v2 : Int32) (v3 : Int32) (mm : zMem) : Option (Nat × Int32 × Int32 × zMem) := match fuel with
  | 0 => none
  | fu + 1 => zoS (sh v0) 13 (fun le16 => (if (mm.1 v0 26) ≤ v3 then some (v0, v2, v3, mm) else zoS (sh v0) 13 (fun le19 => (if (mm.1 v0 26) = 0 then none else zoL ((v3 + 1) - (v3 + 1) / (mm.1 v0 26) * (mm.1 v0 26)) (fun x21 => zoS (sh v0) 13 (fun le23 => Option.bind (mm.2.2 v0 25) (fun a24 => zoS (sh a24) 102 (fun le26 => if (v3 : Int32) < 0 ∨ le26 ≤ (v3 : Int32).toNatClampNeg then none else (if (lg_cmp (mm.2.1 a24 (v3 : Int32).toNatClampNeg) 0) < 0 then zoS (sh v0) 13 (fun le30 => Option.bind (mm.2.2 v0 25) (fun a31 => zoS (sh a31) 102 (fun le33 => if (v3 : Int32) < 0 ∨ le33 ≤ (v3 : Int32).toNatClampNeg then none else (if (lg_cmp (mm.2.1 a31 (v3 : Int32).toNatClampNeg) 0) < 0 then zoS (sh v0) 13 (fun le37 => Option.bind (mm.2.2 v0 25) (fun a38 => zoS (sh a38) 102 (fun le40 => if (x21 : Int32) < 0 ∨ le40 ≤ (x21 : Int32).toNatClampNeg then none else (if (lg_cmp (mm.2.1 a38 (x21 : Int32).toNatClampNeg) 0) < 0 then L_MPainter_cutBy_32 sh fu v0 v2 (v3 + 1) mm else zoS (sh v0) 13 (fun le44 => Option.bind (mm.2.2 v0 25) (fun a45 => zoS (sh a45) 102 (fun le47 => if (v3 : Int32) < 0 ∨ le47 ≤ (v3 : Int32).toNatClampNeg then none else (if (lg_cmp (mm.2.1 a45 (v3 : Int32).toNatClampNeg) 0) < 0 then zoS (sh v0) 13 (fun le51 => Option.bind (mm.2.2 v0 25) (fun a52 => zoS (sh a52) 102 (fun le54 => if (v3 : Int32) < 0 ∨ le54 ≤ (v3 : Int32).toNatClampNeg then none else (if (lg_cmp (mm.2.1 a52 (v3 : Int32).toNatClampNeg) 0) < 0 then Option.bind (L_MPainter_cutBy_181 sh zfuel v0 v2 v3 x21 v3 0 mm) (fun q110 => L_MPainter_cutBy_32 sh fu (q110.1) (q110.2.1 + 1) (q110.2.2.1 + 1) (q110.2.2.2.2.2.2)) else Option.bind (L_MPainter_cutBy_181 sh zfuel v0 v2 v3 x21 x21 0 mm) (fun q111 => L_MPainter_cutBy_32 sh fu (q111.1) (q111.2.1 + 1) (q111.2.2.1 + 1) (q111.2.2.2.2.2.2)))))) else zoS (sh v0) 13 (fun le113 => Option.bind (mm.2.2 v0 25) (fun a114 => zoS (sh a114) 102 (fun le116 => if (v3 : Int32) < 0 ∨ le116 ≤ (v3 : Int32).toNatClampNeg then none else (if (lg_cmp (mm.2.1 a114 (v3 : Int32).toNatClampNeg) 0) < 0 then Option.bind (L_MPainter_cutBy_181 sh zfuel v0 v2 v3 v3 v3 0 mm) (fun q119 => L_MPainter_cutBy_32 sh fu (q119.1) (q119.2.1 + 1) (q119.2.2.1 + 1) (q119.2.2.2.2.2.2)) else Option.bind (L_MPainter_cutBy_181 sh zfuel v0 v2 v3 v3 x21 0 mm) (fun q120 => L_MPainter_cutBy_32 sh fu (q120.1) (q120.2.1 + 1) (q120.2.2.1 + 1) (q120.2.2.2.2.2.2)))))))))))))) else zoS (sh v0) 13 (fun le122 => Option.bind (mm.2.2 v0 25) (fun a123 => zoS (sh a123) 102 (fun le125 => if (x21 : Int32) < 0 ∨ le125 ≤ (x21 : Int32).toNatClampNeg then none else (if (lg_cmp (mm.2.1 a123 (x21 : Int32).toNatClampNeg) 0) < 0 then zoS (sh v0) 13 (fun le129 => Option.bind (mm.2.2 v0 25) (fun a130 => zoS (sh a130) 102 (fun le132 => if (v3 : Int32) < 0 ∨ le132 ≤ (v3 : Int32).toNatClampNeg then none else (if (lg_cmp (mm.2.1 a130 (v3 : Int32).toNatClampNeg) 0) < 0 then zoS (sh v0) 13 (fun le136 => Option.bind (mm.2.2 v0 25) (fun a137 => zoS (sh a137) 102 (fun le139 => if (v3 : Int32) < 0 ∨ le139 ≤ (v3 : Int32).toNatClampNeg then none else (if (lg_cmp (mm.2.1 a137 (v3 : Int32).toNatClampNeg) 0) < 0 then Option.bind (L_MPainter_cutBy_181 sh zfuel v0 v2 v3 x21 v3 0 mm) (fun q142 => L_MPainter_cutBy_32 sh fu (q142.1) (q142.2.1 + 1) (q142.2.2.1 + 1) (q142.2.2.2.2.2.2)) else Option.bind (L_MPainter_cutBy_181 sh zfuel v0 v2 v3 x21 x21 0 mm) (fun q143 => L_MPainter_cutBy_32 sh fu (q143.1) (q143.2.1 + 1) (q143.2.2.1 + 1) (q143.2.2.2.2.2.2)))))) else zoS (sh v0) 13 (fun le145 => Option.bind (mm.2.2 v0 25) (fun a146 => zoS (sh a146) 102 (fun le148 => if (v3 : Int32) < 0 ∨ le148 ≤ (v3 : Int32).toNatClampNeg then none else (if (lg_cmp (mm.2.1 a146 (v3 : Int32).toNatClampNeg) 0) < 0 then Option.bind (L_MPainter_cutBy_181 sh zfuel v0 v2 v3 v3 v3 0 mm) (fun q151 => L_MPainter_cutBy_32 sh fu (q151.1) (q151.2.1 + 1) (q151.2.2.1 + 1) (q151.2.2.2.2.2.2)) else Option.bind (L_MPainter_cutBy_181 sh zfuel v0 v2 v3 v3 x21 0 mm) (fun q152 => L_MPainter_cutBy_32 sh fu (q152.1) (q152.2.1 + 1) (q152.2.2.1 + 1) (q152.2.2.2.2.2.2)))))))))) else L_MPainter_cutBy_32 sh fu v0 v2 (v3 + 1) mm)))))))) else Option.bind (L_MPainter_cutBy_64 sh zfuel v0 v2 v3 x21 0 mm) (fun q170 => zoS (sh (q170.1)) 13 (fun le172 => Option.bind ((q170.2.2.2.2.2).2.2 (q170.1) 25) (fun a173 => zoS (sh a173) 102 (fun le175 => if (q170.2.2.1 : Int32) < 0 ∨ le175 ≤ (q170.2.2.1 : Int32).toNatClampNeg then none else (if (lg_cmp ((q170.2.2.2.2.2).2.1 a173 (q170.2.2.1 : Int32).toNatClampNeg) 0) < 0 then zoS (sh (q170.1)) 13 (fun le179 => Option.bind ((q170.2.2.2.2.2).2.2 (q170.1) 25) (fun a180 => zoS (sh a180) 102 (fun le182 => if (q170.2.2.2.1 : Int32) < 0 ∨ le182 ≤ (q170.2.2.2.1 : Int32).toNatClampNeg then none else (if (lg_cmp ((q170.2.2.2.2.2).2.1 a180 (q170.2.2.2.1 : Int32).toNatClampNeg) 0) < 0 then L_MPainter_cutBy_32 sh fu (q170.1) (q170.2.1 + 1) (q170.2.2.1 + 1) (q170.2.2.2.2.2) else zoS (sh (q170.1)) 13 (fun le186 => Option.bind ((q170.2.2.2.2.2).2.2 (q170.1) 25) (fun a187 => zoS (sh a187) 102 (fun le189 => if (q170.2.2.1 : Int32) < 0 ∨ le189 ≤ (q170.2.2.1 : Int32).toNatClampNeg then none else (if (lg_cmp ((q170.2.2.2.2.2).2.1 a187 (q170.2.2.1 : Int32).toNatClampNeg) 0) < 0 then zoS (sh (q170.1)) 13 (fun le193 => Option.bind ((q170.2.2.2.2.2).2.2 (q170.1) 25) (fun a194 => zoS (sh a194) 102 (fun le196 => if (q170.2.2.1 : Int32) < 0 ∨ le196 ≤ (q170.2.2.1 : Int32).toNatClampNeg then none else (if (lg_cmp ((q170.2.2.2.2.2).2.1 a194 (q170.2.2.1 : Int32).toNatClampNeg) 0) < 0 then Option.bind (L_MPainter_cutBy_181 sh zfuel (q170.1) (q170.2.1 + 1) (q170.2.2.1) (q170.2.2.2.1) (q170.2.2.1) 0 (q170.2.2.2.2.2)) (fun q199 => L_MPainter_cutBy_32 sh fu (q199.1) (q199.2.1 + 1) (q199.2.2.1 + 1) (q199.2.2.2.2.2.2)) else Option.bind (L_MPainter_cutBy_181 sh zfuel (q170.1) (q170.2.1 + 1) (q170.2.2.1) (q170.2.2.2.1) (q170.2.2.2.1) 0 (q170.2.2.2.2.2)) (fun q200 => L_MPainter_cutBy_32 sh fu (q200.1) (q200.2.1 + 1) (q200.2.2.1 + 1) (q200.2.2.2.2.2.2)))))) else zoS (sh (q170.1)) 13 (fun le202 => Option.bind ((q170.2.2.2.2.2).2.2 (q170.1) 25) (fun a203 => zoS (sh a203) 102 (fun le205 => if (q170.2.2.1 : Int32) < 0 ∨ le205 ≤ (q170.2.2.1 : Int32).toNatClampNeg then none else (if (lg_cmp ((q170.2.2.2.2.2).2.1 a203 (q170.2.2.1 : Int32).toNatClampNeg) 0) < 0 then Option.bind (L_MPainter_cutBy_181 sh zfuel (q170.1) (q170.2.1 + 1) (q170.2.2.1) (q170.2.2.1) (q170.2.2.1) 0 (q170.2.2.2.2.2)) (fun q208 => L_MPainter_cutBy_32 sh fu (q208.1) (q208.2.1 + 1) (q208.2.2.1 + 1) (q208.2.2.2.2.2.2)) else Option.bind (L_MPainter_cutBy_181 sh zfuel (q170.1) (q170.2.1 + 1) (q170.2.2.1) (q170.2.2.1) (q170.2.2.2.1) 0 (q170.2.2.2.2.2)) (fun q209 => L_MPainter_cutBy_32 sh fu (q209.1) (q209.2.1 + 1) (q209.2.2.1 + 1) (q209.2.2.2.2.2.2)))))))))))))) else zoS (sh (q170.1)) 13 (fun le211 => Option.bind ((q170.2.2.2.2.2).2.2 (q170.1) 25) (fun a212 => zoS (sh a212) 102 (fun le214 => if (q170.2.2.2.1 : Int32) < 0 ∨ le214 ≤ (q170.2.2.2.1 : Int32).toNatClampNeg then none else (if (lg_cmp ((q170.2.2.2.2.2).2.1 a212 (q170.2.2.2.1 : Int32).toNatClampNeg) 0) < 0 then zoS (sh (q170.1)) 13 (fun le218 => Option.bind ((q170.2.2.2.2.2).2.2 (q170.1) 25) (fun a219 => zoS (sh a219) 102 (fun le221 => if (q170.2.2.1 : Int32) < 0 ∨ le221 ≤ (q170.2.2.1 : Int32).toNatClampNeg then none else (if (lg_cmp ((q170.2.2.2.2.2).2.1 a219 (q170.2.2.1 : Int32).toNatClampNeg) 0) < 0 then zoS (sh (q170.1)) 13 (fun le225 => Option.bind ((q170.2.2.2.2.2).2.2 (q170.1) 25) (fun a226 => zoS (sh a226) 102 (fun le228 => if (q170.2.2.1 : Int32) < 0 ∨ le228 ≤ (q170.2.2.1 : Int32).toNatClampNeg then none else (if (lg_cmp ((q170.2.2.2.2.2).2.1 a226 (q170.2.2.1 : Int32).toNatClampNeg) 0) < 0 then Option.bind (L_MPainter_cutBy_181 sh zfuel (q170.1) (q170.2.1 + 1) (q170.2.2.1) (q170.2.2.2.1) (q170.2.2.1) 0 (q170.2.2.2.2.2)) (fun q231 => L_MPainter_cutBy_32 sh fu (q231.1) (q231.2.1 + 1) (q231.2.2.1 + 1) (q231.2.2.2.2.2.2)) else Option.bind (L_MPainter_cutBy_181 sh zfuel (q170.1) (q170.2.1 + 1) (q170.2.2.1) (q170.2.2.2.1) (q170.2.2.2.1) 0 (q170.2.2.2.2.2)) (fun q232 => L_MPainter_cutBy_32 sh fu (q232.1) (q232.2.1 + 1) (q232.2.2.1 + 1) (q232.2.2.2.2.2.2)))))) else zoS (sh (q170.1)) 13 (fun le234 => Option.bind ((q170.2.2.2.2.2).2.2 (q170.1) 25) (fun a235 => zoS (sh a235) 102 (fun le237 => if (q170.2.2.1 : Int32) < 0 ∨ le237 ≤ (q170.2.2.1 : Int32).toNatClampNeg then none else (if (lg_cmp ((q170.2.2.2.2.2).2.1 a235 (q170.2.2.1 : Int32).toNatClampNeg) 0) < 0 then Option.bind (L_MPainter_cutBy_181 sh zfuel (q170.1) (q170.2.1 + 1) (q170.2.2.1) (q170.2.2.1) (q170.2.2.1) 0 (q170.2.2.2.2.2)) (fun q240 => L_MPainter_cutBy_32 sh fu (q240.1) (q240.2.1 + 1) (q240.2.2.1 + 1) (q240.2.2.2.2.2.2)) else Option.bind (L_MPainter_cutBy_181 sh zfuel (q170.1) (q170.2.1 + 1) (q170.2.2.1) (q170.2.2.1) (q170.2.2.2.1) 0 (q170.2.2.2.2.2)) (fun q241 => L_MPainter_cutBy_32 sh fu (q241.1) (q241.2.1 + 1) (q241.2.2.1 + 1) (q241.2.2.2.2.2.2)))))))))) else L_MPainter_cutBy_32 sh fu (q170.1) (q170.2.1 + 1) (q170.2.2.1 + 1) (q170.2.2.2.2.2)))))))))))))))))))
set_option maxHeartbeats 4000000 in
set_option maxRecDepth 100000 in
theorem lp_MPainter_cutBy_32 {p : Program} {l : Launch} {e : Env} {s : State} {m : MethodId} {args : Array Value} {below : List Frame} {meth : Method} {c : Code} {D : va_G} {tA : Nat → ClassId} {b n : Nat} {post : Option Value → zV → Nat → Prop} {sh : zSh} (F : zF p s m args meth c zb_MPainter_cutBy 10 "OrreryBoxModel$Painter" D tA b) : ∀ (fuel : Nat) (v0 : Nat) (v2 : Int32) (v3 : Int32) (mm : zMem) (r : Nat × Int32 × Int32 × zMem), L_MPainter_cutBy_32 sh fuel v0 v2 v3 mm = some r → (Z p l e { frames := 2, cells := 0, slots := 0, locals := 48 } s m args below meth c D b 10 (MQ below (zQ D b post) args s 0 0 (fun q => b ≤ q)) (zW tA b sh r.2.2.2) n 0 0 286 [(0, .ref (b + (r.1))), (2, .int (r.2.1)), (3, .int (r.2.2.1))] []) → Z p l e { frames := 2, cells := 0, slots := 0, locals := 48 } s m args below meth c D b 10 (MQ below (zQ D b post) args s 0 0 (fun q => b ≤ q)) (zW tA b sh mm) n 0 0 32 [(0, .ref (b + v0)), (2, .int v2), (3, .int v3)] [] := by
  intro fuel
  induction fuel with
  | zero =>
    intro v0 v2 v3 mm r h
    cases h
  | succ fu ih =>
    intro v0 v2 v3 mm r h hx0
    rw [L_MPainter_cutBy_32] at h
    refine zr_iload_n F zd_MPainter_cutBy_32 rfl ?_
    refine zr_aload_n F zd_MPainter_cutBy_33 rfl ?_
    obtain ⟨le16, hs15, h⟩ := zoS_s h
    refine zr_get F 13 26 zd_MPainter_cutBy_34 (zW_o hs15 (by decide)) rfl (by decide) zw_1606 rfl (by rfl) ?_
    refine zr_pcn 37 rfl ?_
    refine zr_icmp_ge F 286 zd_MPainter_cutBy_37 (by decide) (fun hb17 => ?_) (fun hb17 => ?_)
    ·
      rw [if_pos hb17] at h
      obtain rfl := Option.some.inj h
      refine zr_loc (L' := [(0, .ref (b + v0)), (2, .int v2), (3, .int v3)]) ⟨rfl, rfl, rfl, trivial⟩ ?_
      exact hx0 
    ·
      rw [if_neg hb17] at h
      refine zr_iload_n F zd_MPainter_cutBy_40 rfl ?_
      refine zr_iconstv (v := 1) F zd_MPainter_cutBy_41 (by decide) ?_
      refine zr_iadd F zd_MPainter_cutBy_42 ?_
      refine zr_aload_n F zd_MPainter_cutBy_43 rfl ?_
      obtain ⟨le19, hs18, h⟩ := zoS_s h
      refine zr_get F 13 26 zd_MPainter_cutBy_44 (zW_o hs18 (by decide)) rfl (by decide) zw_1606 rfl (by rfl) ?_
      obtain ⟨hn20, h⟩ := zoI_s h
      refine zr_irem F zd_MPainter_cutBy_47 hn20 ?_
      obtain ⟨x21, ex21, h⟩ := zoL_s h
      rw [← ex21]
      refine zr_istore F zd_MPainter_cutBy_48 (by decide) ?_
      refine zr_pcn 50 rfl ?_
      refine zr_aload_n F zd_MPainter_cutBy_50 rfl ?_
      obtain ⟨le23, hs22, h⟩ := zoS_s h
      obtain ⟨a24, ea24, h⟩ := zoB_s h
      refine zr_get F 13 25 zd_MPainter_cutBy_51 (zW_o hs22 (by decide)) rfl (by decide) zw_1605 rfl (by rfl) ?_
      refine zr_tor ea24 ?_
      refine zr_iload_n F zd_MPainter_cutBy_54 rfl ?_
      obtain ⟨le26, hs25, h⟩ := zoS_s h
      obtain ⟨hi27, h⟩ := zoI_s h
      refine zr_lald F zd_MPainter_cutBy_55 (zW_a2 hs25) hi27 ?_
      refine zr_lconstv (v := 0) F zd_MPainter_cutBy_56 (by decide) ?_
      refine zr_lcmp F zd_MPainter_cutBy_57 ?_
      refine zr_if_lt F 104 zd_MPainter_cutBy_58 (by decide) (fun hb28 => ?_) (fun hb28 => ?_)
      ·
        rw [if_pos hb28] at h
        refine zr_aload_n F zd_MPainter_cutBy_104 rfl ?_
        refine zr_pcn 105 rfl ?_
        obtain ⟨le30, hs29, h⟩ := zoS_s h
        obtain ⟨a31, ea31, h⟩ := zoB_s h
        refine zr_get F 13 25 zd_MPainter_cutBy_105 (zW_o hs29 (by decide)) rfl (by decide) zw_1605 rfl (by rfl) ?_
        refine zr_tor ea31 ?_
        refine zr_iload_n F zd_MPainter_cutBy_108 rfl ?_
        obtain ⟨le33, hs32, h⟩ := zoS_s h
        obtain ⟨hi34, h⟩ := zoI_s h
        refine zr_lald F zd_MPainter_cutBy_109 (zW_a2 hs32) hi34 ?_
        refine zr_lconstv (v := 0) F zd_MPainter_cutBy_110 (by decide) ?_
        refine zr_lcmp F zd_MPainter_cutBy_111 ?_
        refine zr_if_lt F 119 zd_MPainter_cutBy_112 (by decide) (fun hb35 => ?_) (fun hb35 => ?_)
        ·
          rw [if_pos hb35] at h
          refine zr_iconstv (v := 0) F zd_MPainter_cutBy_119 (by decide) ?_
          refine zr_aload_n F zd_MPainter_cutBy_120 rfl ?_
          refine zr_pcn 121 rfl ?_
          obtain ⟨le37, hs36, h⟩ := zoS_s h
          obtain ⟨a38, ea38, h⟩ := zoB_s h
          refine zr_get F 13 25 zd_MPainter_cutBy_121 (zW_o hs36 (by decide)) rfl (by decide) zw_1605 rfl (by rfl) ?_
          refine zr_tor ea38 ?_
          refine zr_iload F zd_MPainter_cutBy_124 rfl ?_
          obtain ⟨le40, hs39, h⟩ := zoS_s h
          obtain ⟨hi41, h⟩ := zoI_s h
          refine zr_lald F zd_MPainter_cutBy_126 (zW_a2 hs39) hi41 ?_
          refine zr_lconstv (v := 0) F zd_MPainter_cutBy_127 (by decide) ?_
          refine zr_lcmp F zd_MPainter_cutBy_128 ?_
          refine zr_if_lt F 136 zd_MPainter_cutBy_129 (by decide) (fun hb42 => ?_) (fun hb42 => ?_)
          ·
            rw [if_pos hb42] at h
            refine zr_iconstv (v := 0) F zd_MPainter_cutBy_136 (by decide) ?_
            refine zr_icmp_eq F 280 zd_MPainter_cutBy_137 (by decide) (fun _ => ?_) (fun hq => absurd hq (by decide))
            refine zr_pcn 280 rfl ?_
            refine zr_iinc (v := (v3 + 1)) F zd_MPainter_cutBy_280 rfl rfl (by decide) ?_
            refine zr_goto F 32 zd_MPainter_cutBy_283 (by decide) ?_
            refine zr_loc (L' := [(0, .ref (b + v0)), (2, .int v2), (3, .int (v3 + 1))]) ⟨rfl, rfl, rfl, trivial⟩ ?_
            exact ih _ _ _ _ _ h hx0
          ·
            rw [if_neg hb42] at h
            refine zr_iconstv (v := 1) F zd_MPainter_cutBy_132 (by decide) ?_
            refine zr_goto F 137 zd_MPainter_cutBy_133 (by decide) ?_
            refine zr_icmp_eq F 280 zd_MPainter_cutBy_137 (by decide) (fun hq => absurd hq (by decide)) (fun _ => ?_)
            refine zr_aload_n F zd_MPainter_cutBy_140 rfl ?_
            obtain ⟨le44, hs43, h⟩ := zoS_s h
            obtain ⟨a45, ea45, h⟩ := zoB_s h
            refine zr_get F 13 25 zd_MPainter_cutBy_141 (zW_o hs43 (by decide)) rfl (by decide) zw_1605 rfl (by rfl) ?_
            refine zr_tor ea45 ?_
            refine zr_iload_n F zd_MPainter_cutBy_144 rfl ?_
            refine zr_pcn 145 rfl ?_
            obtain ⟨le47, hs46, h⟩ := zoS_s h
            obtain ⟨hi48, h⟩ := zoI_s h
            refine zr_lald F zd_MPainter_cutBy_145 (zW_a2 hs46) hi48 ?_
            refine zr_lconstv (v := 0) F zd_MPainter_cutBy_146 (by decide) ?_
            refine zr_lcmp F zd_MPainter_cutBy_147 ?_
            refine zr_if_lt F 155 zd_MPainter_cutBy_148 (by decide) (fun hb49 => ?_) (fun hb49 => ?_)
            ·
              rw [if_pos hb49] at h
              refine zr_iload F zd_MPainter_cutBy_155 rfl ?_
              refine zr_istore F zd_MPainter_cutBy_157 (by decide) ?_
              refine zr_aload_n F zd_MPainter_cutBy_159 rfl ?_
              obtain ⟨le51, hs50, h⟩ := zoS_s h
              obtain ⟨a52, ea52, h⟩ := zoB_s h
              refine zr_get F 13 25 zd_MPainter_cutBy_160 (zW_o hs50 (by decide)) rfl (by decide) zw_1605 rfl (by rfl) ?_
              refine zr_tor ea52 ?_
              refine zr_pcn 163 rfl ?_
              refine zr_iload_n F zd_MPainter_cutBy_163 rfl ?_
              obtain ⟨le54, hs53, h⟩ := zoS_s h
              obtain ⟨hi55, h⟩ := zoI_s h
              refine zr_lald F zd_MPainter_cutBy_164 (zW_a2 hs53) hi55 ?_
              refine zr_lconstv (v := 0) F zd_MPainter_cutBy_165 (by decide) ?_
              refine zr_lcmp F zd_MPainter_cutBy_166 ?_
              refine zr_if_lt F 175 zd_MPainter_cutBy_167 (by decide) (fun hb56 => ?_) (fun hb56 => ?_)
              ·
                rw [if_pos hb56] at h
                refine zr_iload_n F zd_MPainter_cutBy_175 rfl ?_
                refine zr_istore F zd_MPainter_cutBy_176 (by decide) ?_
                refine zr_iconstv (v := 0) F zd_MPainter_cutBy_178 (by decide) ?_
                refine zr_pcn 179 rfl ?_
                refine zr_istore F zd_MPainter_cutBy_179 (by decide) ?_
                obtain ⟨q110, eq110, h⟩ := zoB_s h
                refine zr_loc (L' := [(0, .ref (b + v0)), (2, .int v2), (3, .int v3), (5, .int x21), (6, .int v3), (7, .int 0)]) ⟨rfl, rfl, rfl, rfl, rfl, rfl, trivial⟩ ?_
                refine lp_MPainter_cutBy_181 F _ _ _ _ _ _ _ _ _ eq110 ?_
                ·
                  refine zr_iinc (v := (q110.2.1 + 1)) F zd_MPainter_cutBy_277 rfl rfl (by decide) ?_
                  refine zr_iinc (v := (q110.2.2.1 + 1)) F zd_MPainter_cutBy_280 rfl rfl (by decide) ?_
                  refine zr_goto F 32 zd_MPainter_cutBy_283 (by decide) ?_
                  refine zr_loc (L' := [(0, .ref (b + (q110.1))), (2, .int (q110.2.1 + 1)), (3, .int (q110.2.2.1 + 1))]) ⟨rfl, rfl, rfl, trivial⟩ ?_
                  exact ih _ _ _ _ _ h hx0
              ·
                rw [if_neg hb56] at h
                refine zr_iload F zd_MPainter_cutBy_170 rfl ?_
                refine zr_goto F 176 zd_MPainter_cutBy_172 (by decide) ?_
                refine zr_istore F zd_MPainter_cutBy_176 (by decide) ?_
                refine zr_iconstv (v := 0) F zd_MPainter_cutBy_178 (by decide) ?_
                refine zr_pcn 179 rfl ?_
                refine zr_istore F zd_MPainter_cutBy_179 (by decide) ?_
                obtain ⟨q111, eq111, h⟩ := zoB_s h
                refine zr_loc (L' := [(0, .ref (b + v0)), (2, .int v2), (3, .int v3), (5, .int x21), (6, .int x21), (7, .int 0)]) ⟨rfl, rfl, rfl, rfl, rfl, rfl, trivial⟩ ?_
                refine lp_MPainter_cutBy_181 F _ _ _ _ _ _ _ _ _ eq111 ?_
                ·
                  refine zr_iinc (v := (q111.2.1 + 1)) F zd_MPainter_cutBy_277 rfl rfl (by decide) ?_
                  refine zr_iinc (v := (q111.2.2.1 + 1)) F zd_MPainter_cutBy_280 rfl rfl (by decide) ?_
                  refine zr_goto F 32 zd_MPainter_cutBy_283 (by decide) ?_
                  refine zr_loc (L' := [(0, .ref (b + (q111.1))), (2, .int (q111.2.1 + 1)), (3, .int (q111.2.2.1 + 1))]) ⟨rfl, rfl, rfl, trivial⟩ ?_
                  exact ih _ _ _ _ _ h hx0
            ·
              rw [if_neg hb49] at h
              refine zr_iload_n F zd_MPainter_cutBy_151 rfl ?_
              refine zr_goto F 157 zd_MPainter_cutBy_152 (by decide) ?_
              refine zr_istore F zd_MPainter_cutBy_157 (by decide) ?_
              refine zr_aload_n F zd_MPainter_cutBy_159 rfl ?_
              refine zr_pcn 160 rfl ?_
              obtain ⟨le113, hs112, h⟩ := zoS_s h
              obtain ⟨a114, ea114, h⟩ := zoB_s h
              refine zr_get F 13 25 zd_MPainter_cutBy_160 (zW_o hs112 (by decide)) rfl (by decide) zw_1605 rfl (by rfl) ?_
              refine zr_tor ea114 ?_
              refine zr_iload_n F zd_MPainter_cutBy_163 rfl ?_
              obtain ⟨le116, hs115, h⟩ := zoS_s h
              obtain ⟨hi117, h⟩ := zoI_s h
              refine zr_lald F zd_MPainter_cutBy_164 (zW_a2 hs115) hi117 ?_
              refine zr_lconstv (v := 0) F zd_MPainter_cutBy_165 (by decide) ?_
              refine zr_lcmp F zd_MPainter_cutBy_166 ?_
              refine zr_if_lt F 175 zd_MPainter_cutBy_167 (by decide) (fun hb118 => ?_) (fun hb118 => ?_)
              ·
                rw [if_pos hb118] at h
                refine zr_iload_n F zd_MPainter_cutBy_175 rfl ?_
                refine zr_istore F zd_MPainter_cutBy_176 (by decide) ?_
                refine zr_pcn 178 rfl ?_
                refine zr_iconstv (v := 0) F zd_MPainter_cutBy_178 (by decide) ?_
                refine zr_istore F zd_MPainter_cutBy_179 (by decide) ?_
                obtain ⟨q119, eq119, h⟩ := zoB_s h
                refine zr_loc (L' := [(0, .ref (b + v0)), (2, .int v2), (3, .int v3), (5, .int v3), (6, .int v3), (7, .int 0)]) ⟨rfl, rfl, rfl, rfl, rfl, rfl, trivial⟩ ?_
                refine lp_MPainter_cutBy_181 F _ _ _ _ _ _ _ _ _ eq119 ?_
                ·
                  refine zr_iinc (v := (q119.2.1 + 1)) F zd_MPainter_cutBy_277 rfl rfl (by decide) ?_
                  refine zr_iinc (v := (q119.2.2.1 + 1)) F zd_MPainter_cutBy_280 rfl rfl (by decide) ?_
                  refine zr_goto F 32 zd_MPainter_cutBy_283 (by decide) ?_
                  refine zr_loc (L' := [(0, .ref (b + (q119.1))), (2, .int (q119.2.1 + 1)), (3, .int (q119.2.2.1 + 1))]) ⟨rfl, rfl, rfl, trivial⟩ ?_
                  exact ih _ _ _ _ _ h hx0
              ·
                rw [if_neg hb118] at h
                refine zr_iload F zd_MPainter_cutBy_170 rfl ?_
                refine zr_goto F 176 zd_MPainter_cutBy_172 (by decide) ?_
                refine zr_istore F zd_MPainter_cutBy_176 (by decide) ?_
                refine zr_pcn 178 rfl ?_
                refine zr_iconstv (v := 0) F zd_MPainter_cutBy_178 (by decide) ?_
                refine zr_istore F zd_MPainter_cutBy_179 (by decide) ?_
                obtain ⟨q120, eq120, h⟩ := zoB_s h
                refine zr_loc (L' := [(0, .ref (b + v0)), (2, .int v2), (3, .int v3), (5, .int v3), (6, .int x21), (7, .int 0)]) ⟨rfl, rfl, rfl, rfl, rfl, rfl, trivial⟩ ?_
                refine lp_MPainter_cutBy_181 F _ _ _ _ _ _ _ _ _ eq120 ?_
                ·
                  refine zr_iinc (v := (q120.2.1 + 1)) F zd_MPainter_cutBy_277 rfl rfl (by decide) ?_
                  refine zr_iinc (v := (q120.2.2.1 + 1)) F zd_MPainter_cutBy_280 rfl rfl (by decide) ?_
                  refine zr_goto F 32 zd_MPainter_cutBy_283 (by decide) ?_
                  refine zr_loc (L' := [(0, .ref (b + (q120.1))), (2, .int (q120.2.1 + 1)), (3, .int (q120.2.2.1 + 1))]) ⟨rfl, rfl, rfl, trivial⟩ ?_
                  exact ih _ _ _ _ _ h hx0
        ·
          rw [if_neg hb35] at h
          refine zr_iconstv (v := 1) F zd_MPainter_cutBy_115 (by decide) ?_
          refine zr_goto F 120 zd_MPainter_cutBy_116 (by decide) ?_
          refine zr_aload_n F zd_MPainter_cutBy_120 rfl ?_
          refine zr_pcn 121 rfl ?_
          obtain ⟨le122, hs121, h⟩ := zoS_s h
          obtain ⟨a123, ea123, h⟩ := zoB_s h
          refine zr_get F 13 25 zd_MPainter_cutBy_121 (zW_o hs121 (by decide)) rfl (by decide) zw_1605 rfl (by rfl) ?_
          refine zr_tor ea123 ?_
          refine zr_iload F zd_MPainter_cutBy_124 rfl ?_
          obtain ⟨le125, hs124, h⟩ := zoS_s h
          obtain ⟨hi126, h⟩ := zoI_s h
          refine zr_lald F zd_MPainter_cutBy_126 (zW_a2 hs124) hi126 ?_
          refine zr_lconstv (v := 0) F zd_MPainter_cutBy_127 (by decide) ?_
          refine zr_lcmp F zd_MPainter_cutBy_128 ?_
          refine zr_if_lt F 136 zd_MPainter_cutBy_129 (by decide) (fun hb127 => ?_) (fun hb127 => ?_)
          ·
            rw [if_pos hb127] at h
            refine zr_iconstv (v := 0) F zd_MPainter_cutBy_136 (by decide) ?_
            refine zr_icmp_eq F 280 zd_MPainter_cutBy_137 (by decide) (fun hq => absurd hq (by decide)) (fun _ => ?_)
            refine zr_pcn 140 rfl ?_
            refine zr_aload_n F zd_MPainter_cutBy_140 rfl ?_
            obtain ⟨le129, hs128, h⟩ := zoS_s h
            obtain ⟨a130, ea130, h⟩ := zoB_s h
            refine zr_get F 13 25 zd_MPainter_cutBy_141 (zW_o hs128 (by decide)) rfl (by decide) zw_1605 rfl (by rfl) ?_
            refine zr_tor ea130 ?_
            refine zr_iload_n F zd_MPainter_cutBy_144 rfl ?_
            obtain ⟨le132, hs131, h⟩ := zoS_s h
            obtain ⟨hi133, h⟩ := zoI_s h
            refine zr_lald F zd_MPainter_cutBy_145 (zW_a2 hs131) hi133 ?_
            refine zr_lconstv (v := 0) F zd_MPainter_cutBy_146 (by decide) ?_
            refine zr_lcmp F zd_MPainter_cutBy_147 ?_
            refine zr_if_lt F 155 zd_MPainter_cutBy_148 (by decide) (fun hb134 => ?_) (fun hb134 => ?_)
            ·
              rw [if_pos hb134] at h
              refine zr_iload F zd_MPainter_cutBy_155 rfl ?_
              refine zr_pcn 157 rfl ?_
              refine zr_istore F zd_MPainter_cutBy_157 (by decide) ?_
              refine zr_aload_n F zd_MPainter_cutBy_159 rfl ?_
              obtain ⟨le136, hs135, h⟩ := zoS_s h
              obtain ⟨a137, ea137, h⟩ := zoB_s h
              refine zr_get F 13 25 zd_MPainter_cutBy_160 (zW_o hs135 (by decide)) rfl (by decide) zw_1605 rfl (by rfl) ?_
              refine zr_tor ea137 ?_
              refine zr_iload_n F zd_MPainter_cutBy_163 rfl ?_
              obtain ⟨le139, hs138, h⟩ := zoS_s h
              obtain ⟨hi140, h⟩ := zoI_s h
              refine zr_lald F zd_MPainter_cutBy_164 (zW_a2 hs138) hi140 ?_
              refine zr_lconstv (v := 0) F zd_MPainter_cutBy_165 (by decide) ?_
              refine zr_lcmp F zd_MPainter_cutBy_166 ?_
              refine zr_if_lt F 175 zd_MPainter_cutBy_167 (by decide) (fun hb141 => ?_) (fun hb141 => ?_)
              ·
                rw [if_pos hb141] at h
                refine zr_pcn 175 rfl ?_
                refine zr_iload_n F zd_MPainter_cutBy_175 rfl ?_
                refine zr_istore F zd_MPainter_cutBy_176 (by decide) ?_
                refine zr_iconstv (v := 0) F zd_MPainter_cutBy_178 (by decide) ?_
                refine zr_istore F zd_MPainter_cutBy_179 (by decide) ?_
                obtain ⟨q142, eq142, h⟩ := zoB_s h
                refine zr_loc (L' := [(0, .ref (b + v0)), (2, .int v2), (3, .int v3), (5, .int x21), (6, .int v3), (7, .int 0)]) ⟨rfl, rfl, rfl, rfl, rfl, rfl, trivial⟩ ?_
                refine lp_MPainter_cutBy_181 F _ _ _ _ _ _ _ _ _ eq142 ?_
                ·
                  refine zr_iinc (v := (q142.2.1 + 1)) F zd_MPainter_cutBy_277 rfl rfl (by decide) ?_
                  refine zr_iinc (v := (q142.2.2.1 + 1)) F zd_MPainter_cutBy_280 rfl rfl (by decide) ?_
                  refine zr_goto F 32 zd_MPainter_cutBy_283 (by decide) ?_
                  refine zr_loc (L' := [(0, .ref (b + (q142.1))), (2, .int (q142.2.1 + 1)), (3, .int (q142.2.2.1 + 1))]) ⟨rfl, rfl, rfl, trivial⟩ ?_
                  exact ih _ _ _ _ _ h hx0
              ·
                rw [if_neg hb141] at h
                refine zr_iload F zd_MPainter_cutBy_170 rfl ?_
                refine zr_pcn 172 rfl ?_
                refine zr_goto F 176 zd_MPainter_cutBy_172 (by decide) ?_
                refine zr_istore F zd_MPainter_cutBy_176 (by decide) ?_
                refine zr_iconstv (v := 0) F zd_MPainter_cutBy_178 (by decide) ?_
                refine zr_istore F zd_MPainter_cutBy_179 (by decide) ?_
                obtain ⟨q143, eq143, h⟩ := zoB_s h
                refine zr_loc (L' := [(0, .ref (b + v0)), (2, .int v2), (3, .int v3), (5, .int x21), (6, .int x21), (7, .int 0)]) ⟨rfl, rfl, rfl, rfl, rfl, rfl, trivial⟩ ?_
                refine lp_MPainter_cutBy_181 F _ _ _ _ _ _ _ _ _ eq143 ?_
                ·
                  refine zr_iinc (v := (q143.2.1 + 1)) F zd_MPainter_cutBy_277 rfl rfl (by decide) ?_
                  refine zr_iinc (v := (q143.2.2.1 + 1)) F zd_MPainter_cutBy_280 rfl rfl (by decide) ?_
                  refine zr_goto F 32 zd_MPainter_cutBy_283 (by decide) ?_
                  refine zr_loc (L' := [(0, .ref (b + (q143.1))), (2, .int (q143.2.1 + 1)), (3, .int (q143.2.2.1 + 1))]) ⟨rfl, rfl, rfl, trivial⟩ ?_
                  exact ih _ _ _ _ _ h hx0
            ·
              rw [if_neg hb134] at h
              refine zr_iload_n F zd_MPainter_cutBy_151 rfl ?_
              refine zr_pcn 152 rfl ?_
              refine zr_goto F 157 zd_MPainter_cutBy_152 (by decide) ?_
              refine zr_istore F zd_MPainter_cutBy_157 (by decide) ?_
              refine zr_aload_n F zd_MPainter_cutBy_159 rfl ?_
              obtain ⟨le145, hs144, h⟩ := zoS_s h
              obtain ⟨a146, ea146, h⟩ := zoB_s h
              refine zr_get F 13 25 zd_MPainter_cutBy_160 (zW_o hs144 (by decide)) rfl (by decide) zw_1605 rfl (by rfl) ?_
              refine zr_tor ea146 ?_
              refine zr_iload_n F zd_MPainter_cutBy_163 rfl ?_
              obtain ⟨le148, hs147, h⟩ := zoS_s h
              obtain ⟨hi149, h⟩ := zoI_s h
              refine zr_lald F zd_MPainter_cutBy_164 (zW_a2 hs147) hi149 ?_
              refine zr_lconstv (v := 0) F zd_MPainter_cutBy_165 (by decide) ?_
              refine zr_lcmp F zd_MPainter_cutBy_166 ?_
              refine zr_pcn 167 rfl ?_
              refine zr_if_lt F 175 zd_MPainter_cutBy_167 (by decide) (fun hb150 => ?_) (fun hb150 => ?_)
              ·
                rw [if_pos hb150] at h
                refine zr_iload_n F zd_MPainter_cutBy_175 rfl ?_
                refine zr_istore F zd_MPainter_cutBy_176 (by decide) ?_
                refine zr_iconstv (v := 0) F zd_MPainter_cutBy_178 (by decide) ?_
                refine zr_istore F zd_MPainter_cutBy_179 (by decide) ?_
                obtain ⟨q151, eq151, h⟩ := zoB_s h
                refine zr_loc (L' := [(0, .ref (b + v0)), (2, .int v2), (3, .int v3), (5, .int v3), (6, .int v3), (7, .int 0)]) ⟨rfl, rfl, rfl, rfl, rfl, rfl, trivial⟩ ?_
                refine lp_MPainter_cutBy_181 F _ _ _ _ _ _ _ _ _ eq151 ?_
                ·
                  refine zr_iinc (v := (q151.2.1 + 1)) F zd_MPainter_cutBy_277 rfl rfl (by decide) ?_
                  refine zr_iinc (v := (q151.2.2.1 + 1)) F zd_MPainter_cutBy_280 rfl rfl (by decide) ?_
                  refine zr_goto F 32 zd_MPainter_cutBy_283 (by decide) ?_
                  refine zr_loc (L' := [(0, .ref (b + (q151.1))), (2, .int (q151.2.1 + 1)), (3, .int (q151.2.2.1 + 1))]) ⟨rfl, rfl, rfl, trivial⟩ ?_
                  exact ih _ _ _ _ _ h hx0
              ·
                rw [if_neg hb150] at h
                refine zr_pcn 170 rfl ?_
                refine zr_iload F zd_MPainter_cutBy_170 rfl ?_
                refine zr_goto F 176 zd_MPainter_cutBy_172 (by decide) ?_
                refine zr_istore F zd_MPainter_cutBy_176 (by decide) ?_
                refine zr_iconstv (v := 0) F zd_MPainter_cutBy_178 (by decide) ?_
                refine zr_istore F zd_MPainter_cutBy_179 (by decide) ?_
                obtain ⟨q152, eq152, h⟩ := zoB_s h
                refine zr_loc (L' := [(0, .ref (b + v0)), (2, .int v2), (3, .int v3), (5, .int v3), (6, .int x21), (7, .int 0)]) ⟨rfl, rfl, rfl, rfl, rfl, rfl, trivial⟩ ?_
                refine lp_MPainter_cutBy_181 F _ _ _ _ _ _ _ _ _ eq152 ?_
                ·
                  refine zr_iinc (v := (q152.2.1 + 1)) F zd_MPainter_cutBy_277 rfl rfl (by decide) ?_
                  refine zr_iinc (v := (q152.2.2.1 + 1)) F zd_MPainter_cutBy_280 rfl rfl (by decide) ?_
                  refine zr_goto F 32 zd_MPainter_cutBy_283 (by decide) ?_
                  refine zr_loc (L' := [(0, .ref (b + (q152.1))), (2, .int (q152.2.1 + 1)), (3, .int (q152.2.2.1 + 1))]) ⟨rfl, rfl, rfl, trivial⟩ ?_
                  exact ih _ _ _ _ _ h hx0
          ·
            rw [if_neg hb127] at h
            refine zr_pcn 132 rfl ?_
            refine zr_iconstv (v := 1) F zd_MPainter_cutBy_132 (by decide) ?_
            refine zr_goto F 137 zd_MPainter_cutBy_133 (by decide) ?_
            refine zr_icmp_eq F 280 zd_MPainter_cutBy_137 (by decide) (fun _ => ?_) (fun hq => absurd hq (by decide))
            refine zr_iinc (v := (v3 + 1)) F zd_MPainter_cutBy_280 rfl rfl (by decide) ?_
            refine zr_goto F 32 zd_MPainter_cutBy_283 (by decide) ?_
            refine zr_loc (L' := [(0, .ref (b + v0)), (2, .int v2), (3, .int (v3 + 1))]) ⟨rfl, rfl, rfl, trivial⟩ ?_
            exact ih _ _ _ _ _ h hx0
      ·
        rw [if_neg hb28] at h
        refine zr_iconstv (v := 0) F zd_MPainter_cutBy_61 (by decide) ?_
        refine zr_istore F zd_MPainter_cutBy_62 (by decide) ?_
        obtain ⟨q170, eq170, h⟩ := zoB_s h
        refine zr_loc (L' := [(0, .ref (b + v0)), (2, .int v2), (3, .int v3), (4, .int x21), (5, .int 0)]) ⟨rfl, rfl, rfl, rfl, rfl, trivial⟩ ?_
        refine lp_MPainter_cutBy_64 F _ _ _ _ _ _ _ _ eq170 ?_
        ·
          refine zr_iinc (v := (q170.2.1 + 1)) F zd_MPainter_cutBy_101 rfl rfl (by decide) ?_
          refine zr_aload_n F zd_MPainter_cutBy_104 rfl ?_
          obtain ⟨le172, hs171, h⟩ := zoS_s h
          obtain ⟨a173, ea173, h⟩ := zoB_s h
          refine zr_get F 13 25 zd_MPainter_cutBy_105 (zW_o hs171 (by decide)) rfl (by decide) zw_1605 rfl (by rfl) ?_
          refine zr_tor ea173 ?_
          refine zr_iload_n F zd_MPainter_cutBy_108 rfl ?_
          refine zr_pcn 109 rfl ?_
          obtain ⟨le175, hs174, h⟩ := zoS_s h
          obtain ⟨hi176, h⟩ := zoI_s h
          refine zr_lald F zd_MPainter_cutBy_109 (zW_a2 hs174) hi176 ?_
          refine zr_lconstv (v := 0) F zd_MPainter_cutBy_110 (by decide) ?_
          refine zr_lcmp F zd_MPainter_cutBy_111 ?_
          refine zr_if_lt F 119 zd_MPainter_cutBy_112 (by decide) (fun hb177 => ?_) (fun hb177 => ?_)
          ·
            rw [if_pos hb177] at h
            refine zr_iconstv (v := 0) F zd_MPainter_cutBy_119 (by decide) ?_
            refine zr_aload_n F zd_MPainter_cutBy_120 rfl ?_
            obtain ⟨le179, hs178, h⟩ := zoS_s h
            obtain ⟨a180, ea180, h⟩ := zoB_s h
            refine zr_get F 13 25 zd_MPainter_cutBy_121 (zW_o hs178 (by decide)) rfl (by decide) zw_1605 rfl (by rfl) ?_
            refine zr_tor ea180 ?_
            refine zr_iload F zd_MPainter_cutBy_124 rfl ?_
            refine zr_pcn 126 rfl ?_
            obtain ⟨le182, hs181, h⟩ := zoS_s h
            obtain ⟨hi183, h⟩ := zoI_s h
            refine zr_lald F zd_MPainter_cutBy_126 (zW_a2 hs181) hi183 ?_
            refine zr_lconstv (v := 0) F zd_MPainter_cutBy_127 (by decide) ?_
            refine zr_lcmp F zd_MPainter_cutBy_128 ?_
            refine zr_if_lt F 136 zd_MPainter_cutBy_129 (by decide) (fun hb184 => ?_) (fun hb184 => ?_)
            ·
              rw [if_pos hb184] at h
              refine zr_iconstv (v := 0) F zd_MPainter_cutBy_136 (by decide) ?_
              refine zr_icmp_eq F 280 zd_MPainter_cutBy_137 (by decide) (fun _ => ?_) (fun hq => absurd hq (by decide))
              refine zr_iinc (v := (q170.2.2.1 + 1)) F zd_MPainter_cutBy_280 rfl rfl (by decide) ?_
              refine zr_goto F 32 zd_MPainter_cutBy_283 (by decide) ?_
              refine zr_loc (L' := [(0, .ref (b + (q170.1))), (2, .int (q170.2.1 + 1)), (3, .int (q170.2.2.1 + 1))]) ⟨rfl, rfl, rfl, trivial⟩ ?_
              exact ih _ _ _ _ _ h hx0
            ·
              rw [if_neg hb184] at h
              refine zr_pcn 132 rfl ?_
              refine zr_iconstv (v := 1) F zd_MPainter_cutBy_132 (by decide) ?_
              refine zr_goto F 137 zd_MPainter_cutBy_133 (by decide) ?_
              refine zr_icmp_eq F 280 zd_MPainter_cutBy_137 (by decide) (fun hq => absurd hq (by decide)) (fun _ => ?_)
              refine zr_aload_n F zd_MPainter_cutBy_140 rfl ?_
              obtain ⟨le186, hs185, h⟩ := zoS_s h
              obtain ⟨a187, ea187, h⟩ := zoB_s h
              refine zr_get F 13 25 zd_MPainter_cutBy_141 (zW_o hs185 (by decide)) rfl (by decide) zw_1605 rfl (by rfl) ?_
              refine zr_tor ea187 ?_
              refine zr_iload_n F zd_MPainter_cutBy_144 rfl ?_
              obtain ⟨le189, hs188, h⟩ := zoS_s h
              obtain ⟨hi190, h⟩ := zoI_s h
              refine zr_lald F zd_MPainter_cutBy_145 (zW_a2 hs188) hi190 ?_
              refine zr_lconstv (v := 0) F zd_MPainter_cutBy_146 (by decide) ?_
              refine zr_pcn 147 rfl ?_
              refine zr_lcmp F zd_MPainter_cutBy_147 ?_
              refine zr_if_lt F 155 zd_MPainter_cutBy_148 (by decide) (fun hb191 => ?_) (fun hb191 => ?_)
              ·
                rw [if_pos hb191] at h
                refine zr_iload F zd_MPainter_cutBy_155 rfl ?_
                refine zr_istore F zd_MPainter_cutBy_157 (by decide) ?_
                refine zr_aload_n F zd_MPainter_cutBy_159 rfl ?_
                obtain ⟨le193, hs192, h⟩ := zoS_s h
                obtain ⟨a194, ea194, h⟩ := zoB_s h
                refine zr_get F 13 25 zd_MPainter_cutBy_160 (zW_o hs192 (by decide)) rfl (by decide) zw_1605 rfl (by rfl) ?_
                refine zr_tor ea194 ?_
                refine zr_iload_n F zd_MPainter_cutBy_163 rfl ?_
                obtain ⟨le196, hs195, h⟩ := zoS_s h
                obtain ⟨hi197, h⟩ := zoI_s h
                refine zr_lald F zd_MPainter_cutBy_164 (zW_a2 hs195) hi197 ?_
                refine zr_pcn 165 rfl ?_
                refine zr_lconstv (v := 0) F zd_MPainter_cutBy_165 (by decide) ?_
                refine zr_lcmp F zd_MPainter_cutBy_166 ?_
                refine zr_if_lt F 175 zd_MPainter_cutBy_167 (by decide) (fun hb198 => ?_) (fun hb198 => ?_)
                ·
                  rw [if_pos hb198] at h
                  refine zr_iload_n F zd_MPainter_cutBy_175 rfl ?_
                  refine zr_istore F zd_MPainter_cutBy_176 (by decide) ?_
                  refine zr_iconstv (v := 0) F zd_MPainter_cutBy_178 (by decide) ?_
                  refine zr_istore F zd_MPainter_cutBy_179 (by decide) ?_
                  obtain ⟨q199, eq199, h⟩ := zoB_s h
                  refine zr_loc (L' := [(0, .ref (b + (q170.1))), (2, .int (q170.2.1 + 1)), (3, .int (q170.2.2.1)), (5, .int (q170.2.2.2.1)), (6, .int (q170.2.2.1)), (7, .int 0)]) ⟨rfl, rfl, rfl, rfl, rfl, rfl, trivial⟩ ?_
                  refine lp_MPainter_cutBy_181 F _ _ _ _ _ _ _ _ _ eq199 ?_
                  ·
                    refine zr_iinc (v := (q199.2.1 + 1)) F zd_MPainter_cutBy_277 rfl rfl (by decide) ?_
                    refine zr_pcn 280 rfl ?_
                    refine zr_iinc (v := (q199.2.2.1 + 1)) F zd_MPainter_cutBy_280 rfl rfl (by decide) ?_
                    refine zr_goto F 32 zd_MPainter_cutBy_283 (by decide) ?_
                    refine zr_loc (L' := [(0, .ref (b + (q199.1))), (2, .int (q199.2.1 + 1)), (3, .int (q199.2.2.1 + 1))]) ⟨rfl, rfl, rfl, trivial⟩ ?_
                    exact ih _ _ _ _ _ h hx0
                ·
                  rw [if_neg hb198] at h
                  refine zr_iload F zd_MPainter_cutBy_170 rfl ?_
                  refine zr_goto F 176 zd_MPainter_cutBy_172 (by decide) ?_
                  refine zr_istore F zd_MPainter_cutBy_176 (by decide) ?_
                  refine zr_iconstv (v := 0) F zd_MPainter_cutBy_178 (by decide) ?_
                  refine zr_istore F zd_MPainter_cutBy_179 (by decide) ?_
                  obtain ⟨q200, eq200, h⟩ := zoB_s h
                  refine zr_loc (L' := [(0, .ref (b + (q170.1))), (2, .int (q170.2.1 + 1)), (3, .int (q170.2.2.1)), (5, .int (q170.2.2.2.1)), (6, .int (q170.2.2.2.1)), (7, .int 0)]) ⟨rfl, rfl, rfl, rfl, rfl, rfl, trivial⟩ ?_
                  refine lp_MPainter_cutBy_181 F _ _ _ _ _ _ _ _ _ eq200 ?_
                  ·
                    refine zr_iinc (v := (q200.2.1 + 1)) F zd_MPainter_cutBy_277 rfl rfl (by decide) ?_
                    refine zr_pcn 280 rfl ?_
                    refine zr_iinc (v := (q200.2.2.1 + 1)) F zd_MPainter_cutBy_280 rfl rfl (by decide) ?_
                    refine zr_goto F 32 zd_MPainter_cutBy_283 (by decide) ?_
                    refine zr_loc (L' := [(0, .ref (b + (q200.1))), (2, .int (q200.2.1 + 1)), (3, .int (q200.2.2.1 + 1))]) ⟨rfl, rfl, rfl, trivial⟩ ?_
                    exact ih _ _ _ _ _ h hx0
              ·
                rw [if_neg hb191] at h
                refine zr_iload_n F zd_MPainter_cutBy_151 rfl ?_
                refine zr_goto F 157 zd_MPainter_cutBy_152 (by decide) ?_
                refine zr_istore F zd_MPainter_cutBy_157 (by decide) ?_
                refine zr_aload_n F zd_MPainter_cutBy_159 rfl ?_
                obtain ⟨le202, hs201, h⟩ := zoS_s h
                obtain ⟨a203, ea203, h⟩ := zoB_s h
                refine zr_get F 13 25 zd_MPainter_cutBy_160 (zW_o hs201 (by decide)) rfl (by decide) zw_1605 rfl (by rfl) ?_
                refine zr_tor ea203 ?_
                refine zr_iload_n F zd_MPainter_cutBy_163 rfl ?_
                refine zr_pcn 164 rfl ?_
                obtain ⟨le205, hs204, h⟩ := zoS_s h
                obtain ⟨hi206, h⟩ := zoI_s h
                refine zr_lald F zd_MPainter_cutBy_164 (zW_a2 hs204) hi206 ?_
                refine zr_lconstv (v := 0) F zd_MPainter_cutBy_165 (by decide) ?_
                refine zr_lcmp F zd_MPainter_cutBy_166 ?_
                refine zr_if_lt F 175 zd_MPainter_cutBy_167 (by decide) (fun hb207 => ?_) (fun hb207 => ?_)
                ·
                  rw [if_pos hb207] at h
                  refine zr_iload_n F zd_MPainter_cutBy_175 rfl ?_
                  refine zr_istore F zd_MPainter_cutBy_176 (by decide) ?_
                  refine zr_iconstv (v := 0) F zd_MPainter_cutBy_178 (by decide) ?_
                  refine zr_istore F zd_MPainter_cutBy_179 (by decide) ?_
                  obtain ⟨q208, eq208, h⟩ := zoB_s h
                  refine zr_loc (L' := [(0, .ref (b + (q170.1))), (2, .int (q170.2.1 + 1)), (3, .int (q170.2.2.1)), (5, .int (q170.2.2.1)), (6, .int (q170.2.2.1)), (7, .int 0)]) ⟨rfl, rfl, rfl, rfl, rfl, rfl, trivial⟩ ?_
                  refine lp_MPainter_cutBy_181 F _ _ _ _ _ _ _ _ _ eq208 ?_
                  ·
                    refine zr_pcn 277 rfl ?_
                    refine zr_iinc (v := (q208.2.1 + 1)) F zd_MPainter_cutBy_277 rfl rfl (by decide) ?_
                    refine zr_iinc (v := (q208.2.2.1 + 1)) F zd_MPainter_cutBy_280 rfl rfl (by decide) ?_
                    refine zr_goto F 32 zd_MPainter_cutBy_283 (by decide) ?_
                    refine zr_loc (L' := [(0, .ref (b + (q208.1))), (2, .int (q208.2.1 + 1)), (3, .int (q208.2.2.1 + 1))]) ⟨rfl, rfl, rfl, trivial⟩ ?_
                    exact ih _ _ _ _ _ h hx0
                ·
                  rw [if_neg hb207] at h
                  refine zr_iload F zd_MPainter_cutBy_170 rfl ?_
                  refine zr_goto F 176 zd_MPainter_cutBy_172 (by decide) ?_
                  refine zr_istore F zd_MPainter_cutBy_176 (by decide) ?_
                  refine zr_iconstv (v := 0) F zd_MPainter_cutBy_178 (by decide) ?_
                  refine zr_istore F zd_MPainter_cutBy_179 (by decide) ?_
                  obtain ⟨q209, eq209, h⟩ := zoB_s h
                  refine zr_loc (L' := [(0, .ref (b + (q170.1))), (2, .int (q170.2.1 + 1)), (3, .int (q170.2.2.1)), (5, .int (q170.2.2.1)), (6, .int (q170.2.2.2.1)), (7, .int 0)]) ⟨rfl, rfl, rfl, rfl, rfl, rfl, trivial⟩ ?_
                  refine lp_MPainter_cutBy_181 F _ _ _ _ _ _ _ _ _ eq209 ?_
                  ·
                    refine zr_pcn 277 rfl ?_
                    refine zr_iinc (v := (q209.2.1 + 1)) F zd_MPainter_cutBy_277 rfl rfl (by decide) ?_
                    refine zr_iinc (v := (q209.2.2.1 + 1)) F zd_MPainter_cutBy_280 rfl rfl (by decide) ?_
                    refine zr_goto F 32 zd_MPainter_cutBy_283 (by decide) ?_
                    refine zr_loc (L' := [(0, .ref (b + (q209.1))), (2, .int (q209.2.1 + 1)), (3, .int (q209.2.2.1 + 1))]) ⟨rfl, rfl, rfl, trivial⟩ ?_
                    exact ih _ _ _ _ _ h hx0
          ·
            rw [if_neg hb177] at h
            refine zr_iconstv (v := 1) F zd_MPainter_cutBy_115 (by decide) ?_
            refine zr_goto F 120 zd_MPainter_cutBy_116 (by decide) ?_
            refine zr_aload_n F zd_MPainter_cutBy_120 rfl ?_
            obtain ⟨le211, hs210, h⟩ := zoS_s h
            obtain ⟨a212, ea212, h⟩ := zoB_s h
            refine zr_get F 13 25 zd_MPainter_cutBy_121 (zW_o hs210 (by decide)) rfl (by decide) zw_1605 rfl (by rfl) ?_
            refine zr_tor ea212 ?_
            refine zr_iload F zd_MPainter_cutBy_124 rfl ?_
            refine zr_pcn 126 rfl ?_
            obtain ⟨le214, hs213, h⟩ := zoS_s h
            obtain ⟨hi215, h⟩ := zoI_s h
            refine zr_lald F zd_MPainter_cutBy_126 (zW_a2 hs213) hi215 ?_
            refine zr_lconstv (v := 0) F zd_MPainter_cutBy_127 (by decide) ?_
            refine zr_lcmp F zd_MPainter_cutBy_128 ?_
            refine zr_if_lt F 136 zd_MPainter_cutBy_129 (by decide) (fun hb216 => ?_) (fun hb216 => ?_)
            ·
              rw [if_pos hb216] at h
              refine zr_iconstv (v := 0) F zd_MPainter_cutBy_136 (by decide) ?_
              refine zr_icmp_eq F 280 zd_MPainter_cutBy_137 (by decide) (fun hq => absurd hq (by decide)) (fun _ => ?_)
              refine zr_aload_n F zd_MPainter_cutBy_140 rfl ?_
              obtain ⟨le218, hs217, h⟩ := zoS_s h
              obtain ⟨a219, ea219, h⟩ := zoB_s h
              refine zr_get F 13 25 zd_MPainter_cutBy_141 (zW_o hs217 (by decide)) rfl (by decide) zw_1605 rfl (by rfl) ?_
              refine zr_tor ea219 ?_
              refine zr_pcn 144 rfl ?_
              refine zr_iload_n F zd_MPainter_cutBy_144 rfl ?_
              obtain ⟨le221, hs220, h⟩ := zoS_s h
              obtain ⟨hi222, h⟩ := zoI_s h
              refine zr_lald F zd_MPainter_cutBy_145 (zW_a2 hs220) hi222 ?_
              refine zr_lconstv (v := 0) F zd_MPainter_cutBy_146 (by decide) ?_
              refine zr_lcmp F zd_MPainter_cutBy_147 ?_
              refine zr_if_lt F 155 zd_MPainter_cutBy_148 (by decide) (fun hb223 => ?_) (fun hb223 => ?_)
              ·
                rw [if_pos hb223] at h
                refine zr_iload F zd_MPainter_cutBy_155 rfl ?_
                refine zr_istore F zd_MPainter_cutBy_157 (by decide) ?_
                refine zr_aload_n F zd_MPainter_cutBy_159 rfl ?_
                refine zr_pcn 160 rfl ?_
                obtain ⟨le225, hs224, h⟩ := zoS_s h
                obtain ⟨a226, ea226, h⟩ := zoB_s h
                refine zr_get F 13 25 zd_MPainter_cutBy_160 (zW_o hs224 (by decide)) rfl (by decide) zw_1605 rfl (by rfl) ?_
                refine zr_tor ea226 ?_
                refine zr_iload_n F zd_MPainter_cutBy_163 rfl ?_
                obtain ⟨le228, hs227, h⟩ := zoS_s h
                obtain ⟨hi229, h⟩ := zoI_s h
                refine zr_lald F zd_MPainter_cutBy_164 (zW_a2 hs227) hi229 ?_
                refine zr_lconstv (v := 0) F zd_MPainter_cutBy_165 (by decide) ?_
                refine zr_lcmp F zd_MPainter_cutBy_166 ?_
                refine zr_if_lt F 175 zd_MPainter_cutBy_167 (by decide) (fun hb230 => ?_) (fun hb230 => ?_)
                ·
                  rw [if_pos hb230] at h
                  refine zr_iload_n F zd_MPainter_cutBy_175 rfl ?_
                  refine zr_istore F zd_MPainter_cutBy_176 (by decide) ?_
                  refine zr_pcn 178 rfl ?_
                  refine zr_iconstv (v := 0) F zd_MPainter_cutBy_178 (by decide) ?_
                  refine zr_istore F zd_MPainter_cutBy_179 (by decide) ?_
                  obtain ⟨q231, eq231, h⟩ := zoB_s h
                  refine zr_loc (L' := [(0, .ref (b + (q170.1))), (2, .int (q170.2.1 + 1)), (3, .int (q170.2.2.1)), (5, .int (q170.2.2.2.1)), (6, .int (q170.2.2.1)), (7, .int 0)]) ⟨rfl, rfl, rfl, rfl, rfl, rfl, trivial⟩ ?_
                  refine lp_MPainter_cutBy_181 F _ _ _ _ _ _ _ _ _ eq231 ?_
                  ·
                    refine zr_iinc (v := (q231.2.1 + 1)) F zd_MPainter_cutBy_277 rfl rfl (by decide) ?_
                    refine zr_iinc (v := (q231.2.2.1 + 1)) F zd_MPainter_cutBy_280 rfl rfl (by decide) ?_
                    refine zr_goto F 32 zd_MPainter_cutBy_283 (by decide) ?_
                    refine zr_loc (L' := [(0, .ref (b + (q231.1))), (2, .int (q231.2.1 + 1)), (3, .int (q231.2.2.1 + 1))]) ⟨rfl, rfl, rfl, trivial⟩ ?_
                    exact ih _ _ _ _ _ h hx0
                ·
                  rw [if_neg hb230] at h
                  refine zr_iload F zd_MPainter_cutBy_170 rfl ?_
                  refine zr_goto F 176 zd_MPainter_cutBy_172 (by decide) ?_
                  refine zr_istore F zd_MPainter_cutBy_176 (by decide) ?_
                  refine zr_pcn 178 rfl ?_
                  refine zr_iconstv (v := 0) F zd_MPainter_cutBy_178 (by decide) ?_
                  refine zr_istore F zd_MPainter_cutBy_179 (by decide) ?_
                  obtain ⟨q232, eq232, h⟩ := zoB_s h
                  refine zr_loc (L' := [(0, .ref (b + (q170.1))), (2, .int (q170.2.1 + 1)), (3, .int (q170.2.2.1)), (5, .int (q170.2.2.2.1)), (6, .int (q170.2.2.2.1)), (7, .int 0)]) ⟨rfl, rfl, rfl, rfl, rfl, rfl, trivial⟩ ?_
                  refine lp_MPainter_cutBy_181 F _ _ _ _ _ _ _ _ _ eq232 ?_
                  ·
                    refine zr_iinc (v := (q232.2.1 + 1)) F zd_MPainter_cutBy_277 rfl rfl (by decide) ?_
                    refine zr_iinc (v := (q232.2.2.1 + 1)) F zd_MPainter_cutBy_280 rfl rfl (by decide) ?_
                    refine zr_goto F 32 zd_MPainter_cutBy_283 (by decide) ?_
                    refine zr_loc (L' := [(0, .ref (b + (q232.1))), (2, .int (q232.2.1 + 1)), (3, .int (q232.2.2.1 + 1))]) ⟨rfl, rfl, rfl, trivial⟩ ?_
                    exact ih _ _ _ _ _ h hx0
              ·
                rw [if_neg hb223] at h
                refine zr_iload_n F zd_MPainter_cutBy_151 rfl ?_
                refine zr_goto F 157 zd_MPainter_cutBy_152 (by decide) ?_
                refine zr_istore F zd_MPainter_cutBy_157 (by decide) ?_
                refine zr_pcn 159 rfl ?_
                refine zr_aload_n F zd_MPainter_cutBy_159 rfl ?_
                obtain ⟨le234, hs233, h⟩ := zoS_s h
                obtain ⟨a235, ea235, h⟩ := zoB_s h
                refine zr_get F 13 25 zd_MPainter_cutBy_160 (zW_o hs233 (by decide)) rfl (by decide) zw_1605 rfl (by rfl) ?_
                refine zr_tor ea235 ?_
                refine zr_iload_n F zd_MPainter_cutBy_163 rfl ?_
                obtain ⟨le237, hs236, h⟩ := zoS_s h
                obtain ⟨hi238, h⟩ := zoI_s h
                refine zr_lald F zd_MPainter_cutBy_164 (zW_a2 hs236) hi238 ?_
                refine zr_lconstv (v := 0) F zd_MPainter_cutBy_165 (by decide) ?_
                refine zr_lcmp F zd_MPainter_cutBy_166 ?_
                refine zr_if_lt F 175 zd_MPainter_cutBy_167 (by decide) (fun hb239 => ?_) (fun hb239 => ?_)
                ·
                  rw [if_pos hb239] at h
                  refine zr_iload_n F zd_MPainter_cutBy_175 rfl ?_
                  refine zr_pcn 176 rfl ?_
                  refine zr_istore F zd_MPainter_cutBy_176 (by decide) ?_
                  refine zr_iconstv (v := 0) F zd_MPainter_cutBy_178 (by decide) ?_
                  refine zr_istore F zd_MPainter_cutBy_179 (by decide) ?_
                  obtain ⟨q240, eq240, h⟩ := zoB_s h
                  refine zr_loc (L' := [(0, .ref (b + (q170.1))), (2, .int (q170.2.1 + 1)), (3, .int (q170.2.2.1)), (5, .int (q170.2.2.1)), (6, .int (q170.2.2.1)), (7, .int 0)]) ⟨rfl, rfl, rfl, rfl, rfl, rfl, trivial⟩ ?_
                  refine lp_MPainter_cutBy_181 F _ _ _ _ _ _ _ _ _ eq240 ?_
                  ·
                    refine zr_iinc (v := (q240.2.1 + 1)) F zd_MPainter_cutBy_277 rfl rfl (by decide) ?_
                    refine zr_iinc (v := (q240.2.2.1 + 1)) F zd_MPainter_cutBy_280 rfl rfl (by decide) ?_
                    refine zr_goto F 32 zd_MPainter_cutBy_283 (by decide) ?_
                    refine zr_loc (L' := [(0, .ref (b + (q240.1))), (2, .int (q240.2.1 + 1)), (3, .int (q240.2.2.1 + 1))]) ⟨rfl, rfl, rfl, trivial⟩ ?_
                    exact ih _ _ _ _ _ h hx0
                ·
                  rw [if_neg hb239] at h
                  refine zr_iload F zd_MPainter_cutBy_170 rfl ?_
                  refine zr_goto F 176 zd_MPainter_cutBy_172 (by decide) ?_
                  refine zr_pcn 176 rfl ?_
                  refine zr_istore F zd_MPainter_cutBy_176 (by decide) ?_
                  refine zr_iconstv (v := 0) F zd_MPainter_cutBy_178 (by decide) ?_
                  refine zr_istore F zd_MPainter_cutBy_179 (by decide) ?_
                  obtain ⟨q241, eq241, h⟩ := zoB_s h
                  refine zr_loc (L' := [(0, .ref (b + (q170.1))), (2, .int (q170.2.1 + 1)), (3, .int (q170.2.2.1)), (5, .int (q170.2.2.1)), (6, .int (q170.2.2.2.1)), (7, .int 0)]) ⟨rfl, rfl, rfl, rfl, rfl, rfl, trivial⟩ ?_
                  refine lp_MPainter_cutBy_181 F _ _ _ _ _ _ _ _ _ eq241 ?_
                  ·
                    refine zr_iinc (v := (q241.2.1 + 1)) F zd_MPainter_cutBy_277 rfl rfl (by decide) ?_
                    refine zr_iinc (v := (q241.2.2.1 + 1)) F zd_MPainter_cutBy_280 rfl rfl (by decide) ?_
                    refine zr_goto F 32 zd_MPainter_cutBy_283 (by decide) ?_
                    refine zr_loc (L' := [(0, .ref (b + (q241.1))), (2, .int (q241.2.1 + 1)), (3, .int (q241.2.2.1 + 1))]) ⟨rfl, rfl, rfl, trivial⟩ ?_
                    exact ih _ _ _ _ _ h hx0
            ·
              rw [if_neg hb216] at h
              refine zr_iconstv (v := 1) F zd_MPainter_cutBy_132 (by decide) ?_
              refine zr_goto F 137 zd_MPainter_cutBy_133 (by decide) ?_
              refine zr_pcn 137 rfl ?_
              refine zr_icmp_eq F 280 zd_MPainter_cutBy_137 (by decide) (fun _ => ?_) (fun hq => absurd hq (by decide))
              refine zr_iinc (v := (q170.2.2.1 + 1)) F zd_MPainter_cutBy_280 rfl rfl (by decide) ?_
              refine zr_goto F 32 zd_MPainter_cutBy_283 (by decide) ?_
              refine zr_loc (L' := [(0, .ref (b + (q170.1))), (2, .int (q170.2.1 + 1)), (3, .int (q170.2.2.1 + 1))]) ⟨rfl, rfl, rfl, trivial⟩ ?_
              exact ih _ _ _ _ _ h hx0
theorem zf_I_13_26 (b : Nat) (m : zMem) (k : Nat) (v : Int32) : (zfl b 13 m k).set 26 (.int v) = zfl b 13 (mI m k 26 v) k := by simp [zfl, mI, upd, vp_updL]
def L_MPainter_cutBy_293 (sh : zSh) (fuel : Nat) (v0 : Nat) (v2 : Int32) (v3 : Int32) (mm : zMem) : Option (Nat × Int32 × Int32 × zMem) := match fuel with
  | 0 => none
  | fu + 1 => (if (6 * v2) ≤ v3 then some (v0, v2, v3, mm) else zoS (sh v0) 13 (fun le248 => Option.bind (mm.2.2 v0 23) (fun a249 => zoS (sh v0) 13 (fun le251 => Option.bind (mm.2.2 v0 24) (fun a252 => zoS (sh a252) 102 (fun le254 => if (v3 : Int32) < 0 ∨ le254 ≤ (v3 : Int32).toNatClampNeg then none else zoL (mm.2.1 a252 (v3 : Int32).toNatClampNeg) (fun x256 => zoS (sh a249) 102 (fun le258 => if (v3 : Int32) < 0 ∨ le258 ≤ (v3 : Int32).toNatClampNeg then none else zoL (mL mm a249 (v3 : Int32).toNatClampNeg x256) (fun mm260 => L_MPainter_cutBy_293 sh fu v0 v2 (v3 + 1) mm260)))))))))
set_option maxHeartbeats 4000000 in
set_option maxRecDepth 100000 in
theorem lp_MPainter_cutBy_293 {p : Program} {l : Launch} {e : Env} {s : State} {m : MethodId} {args : Array Value} {below : List Frame} {meth : Method} {c : Code} {D : va_G} {tA : Nat → ClassId} {b n : Nat} {post : Option Value → zV → Nat → Prop} {sh : zSh} (F : zF p s m args meth c zb_MPainter_cutBy 10 "OrreryBoxModel$Painter" D tA b) : ∀ (fuel : Nat) (v0 : Nat) (v2 : Int32) (v3 : Int32) (mm : zMem) (r : Nat × Int32 × Int32 × zMem), L_MPainter_cutBy_293 sh fuel v0 v2 v3 mm = some r → (Z p l e { frames := 2, cells := 0, slots := 0, locals := 48 } s m args below meth c D b 10 (MQ below (zQ D b post) args s 0 0 (fun q => b ≤ q)) (zW tA b sh r.2.2.2) n 0 0 319 [(0, .ref (b + (r.1))), (2, .int (r.2.1)), (3, .int (r.2.2.1))] []) → Z p l e { frames := 2, cells := 0, slots := 0, locals := 48 } s m args below meth c D b 10 (MQ below (zQ D b post) args s 0 0 (fun q => b ≤ q)) (zW tA b sh mm) n 0 0 293 [(0, .ref (b + v0)), (2, .int v2), (3, .int v3)] [] := by
  intro fuel
  induction fuel with
  | zero =>
    intro v0 v2 v3 mm r h
    cases h
  | succ fu ih =>
    intro v0 v2 v3 mm r h hx0
    rw [L_MPainter_cutBy_293] at h
    refine zr_pcn 293 rfl ?_
    refine zr_iload_n F zd_MPainter_cutBy_293 rfl ?_
    refine zr_bipushv (v := 6) F zd_MPainter_cutBy_294 (by decide) ?_
    refine zr_iload_n F zd_MPainter_cutBy_296 rfl ?_
    refine zr_imul F zd_MPainter_cutBy_297 ?_
    refine zr_icmp_ge F 319 zd_MPainter_cutBy_298 (by decide) (fun hb246 => ?_) (fun hb246 => ?_)
    ·
      rw [if_pos hb246] at h
      obtain rfl := Option.some.inj h
      refine zr_loc (L' := [(0, .ref (b + v0)), (2, .int v2), (3, .int v3)]) ⟨rfl, rfl, rfl, trivial⟩ ?_
      exact hx0 
    ·
      rw [if_neg hb246] at h
      refine zr_aload_n F zd_MPainter_cutBy_301 rfl ?_
      obtain ⟨le248, hs247, h⟩ := zoS_s h
      obtain ⟨a249, ea249, h⟩ := zoB_s h
      refine zr_get F 13 23 zd_MPainter_cutBy_302 (zW_o hs247 (by decide)) rfl (by decide) zw_1603 rfl (by rfl) ?_
      refine zr_tor ea249 ?_
      refine zr_iload_n F zd_MPainter_cutBy_305 rfl ?_
      refine zr_pcn 306 rfl ?_
      refine zr_aload_n F zd_MPainter_cutBy_306 rfl ?_
      obtain ⟨le251, hs250, h⟩ := zoS_s h
      obtain ⟨a252, ea252, h⟩ := zoB_s h
      refine zr_get F 13 24 zd_MPainter_cutBy_307 (zW_o hs250 (by decide)) rfl (by decide) zw_1604 rfl (by rfl) ?_
      refine zr_tor ea252 ?_
      refine zr_iload_n F zd_MPainter_cutBy_310 rfl ?_
      obtain ⟨le254, hs253, h⟩ := zoS_s h
      obtain ⟨hi255, h⟩ := zoI_s h
      refine zr_lald F zd_MPainter_cutBy_311 (zW_a2 hs253) hi255 ?_
      obtain ⟨x256, ex256, h⟩ := zoL_s h
      rw [← ex256]
      obtain ⟨le258, hs257, h⟩ := zoS_s h
      obtain ⟨hi259, h⟩ := zoI_s h
      refine zr_last F zd_MPainter_cutBy_312 (zW_a2 hs257) hi259 ?_
      obtain ⟨mm260, emm260, h⟩ := zoL_s h
      refine zr_norm (zW tA b sh mm260) _ (by rw [emm260]; exact zW_s2 hs257) rfl ?_
      refine zr_iinc (v := (v3 + 1)) F zd_MPainter_cutBy_313 rfl rfl (by decide) ?_
      refine zr_goto F 293 zd_MPainter_cutBy_316 (by decide) ?_
      refine zr_loc (L' := [(0, .ref (b + v0)), (2, .int v2), (3, .int (v3 + 1))]) ⟨rfl, rfl, rfl, trivial⟩ ?_
      exact ih _ _ _ _ _ h hx0
def F_MPainter_cutBy (sh : zSh) (mm : zMem) (o : Nat) (x0_ : Int32) : Option zMem := Option.bind (L_MPainter_cutBy_2 sh zfuel o x0_ 0 mm) (fun q14 => Option.bind (L_MPainter_cutBy_32 sh zfuel (q14.1) 0 0 (q14.2.2.2)) (fun q242 => zoS (sh (q242.1)) 13 (fun le244 => zoL (mI (q242.2.2.2) (q242.1) 26 (q242.2.1)) (fun mm245 => Option.bind (L_MPainter_cutBy_293 sh zfuel (q242.1) (q242.2.1) 0 mm245) (fun q261 => some (q261.2.2.2))))))
set_option maxHeartbeats 4000000 in
set_option maxRecDepth 100000 in
theorem k_MPainter_cutBy (l : Launch) (D : va_G) (tA : Nat → ClassId) (b : Nat) (sh : zSh) (n : Nat) {mm : zMem} {o : Nat} {x0_ : Int32} {r : zMem} (h : F_MPainter_cutBy sh mm o x0_ = some r) : zM l D tA b zy_MPainter_cutBy zb_MPainter_cutBy 10 none 2 48 0 0 [.ref (b + o), .int x0_] (zW tA b sh mm) n (zE none (zW tA b sh r) n) := by
  unfold F_MPainter_cutBy at h
  refine zM_of (own := "OrreryBoxModel$Painter") (plainFor_of_name (by decide)) rfl (Nat.le_of_ble_eq_true rfl) (fun p e s m below meth c F hr hin hH => ?_)
  refine zr_iconstv (v := 0) F zd_MPainter_cutBy_0 (by decide) ?_
  refine zr_istore_n F zd_MPainter_cutBy_1 (by decide) ?_
  obtain ⟨q14, eq14, h⟩ := zoB_s h
  refine zr_loc (L' := [(0, .ref (b + o)), (1, .int x0_), (2, .int 0)]) ⟨rfl, rfl, rfl, trivial⟩ ?_
  refine lp_MPainter_cutBy_2 F _ _ _ _ _ _ eq14 ?_
  ·
    refine zr_iconstv (v := 0) F zd_MPainter_cutBy_28 (by decide) ?_
    refine zr_istore_n F zd_MPainter_cutBy_29 (by decide) ?_
    refine zr_iconstv (v := 0) F zd_MPainter_cutBy_30 (by decide) ?_
    refine zr_istore_n F zd_MPainter_cutBy_31 (by decide) ?_
    obtain ⟨q242, eq242, h⟩ := zoB_s h
    refine zr_loc (L' := [(0, .ref (b + (q14.1))), (2, .int 0), (3, .int 0)]) ⟨rfl, rfl, rfl, trivial⟩ ?_
    refine lp_MPainter_cutBy_32 F _ _ _ _ _ _ eq242 ?_
    ·
      refine zr_aload_n F zd_MPainter_cutBy_286 rfl ?_
      refine zr_iload_n F zd_MPainter_cutBy_287 rfl ?_
      obtain ⟨le244, hs243, h⟩ := zoS_s h
      refine zr_put F 13 26 zd_MPainter_cutBy_288 (zW_o hs243 (by decide)) rfl (by decide) zw_1606 rfl rfl rfl rfl (by exact (Nat.le_of_ble_eq_true rfl)) ?_
      obtain ⟨mm245, emm245, h⟩ := zoL_s h
      refine zr_norm (zW tA b sh mm245) _ (by rw [emm245]; exact zW_pI (v := (q242.2.1)) hs243 (by decide) (zf_I_13_26 b _ _ _)) rfl ?_
      refine zr_iconstv (v := 0) F zd_MPainter_cutBy_291 (by decide) ?_
      refine zr_istore_n F zd_MPainter_cutBy_292 (by decide) ?_
      obtain ⟨q261, eq261, h⟩ := zoB_s h
      refine zr_loc (L' := [(0, .ref (b + (q242.1))), (2, .int (q242.2.1)), (3, .int 0)]) ⟨rfl, rfl, rfl, trivial⟩ ?_
      refine lp_MPainter_cutBy_293 F _ _ _ _ _ _ eq261 ?_
      ·
        obtain rfl := Option.some.inj h
        exact zr_vret F hr zd_MPainter_cutBy_319 (Nat.le_of_ble_eq_true rfl) (Nat.le_of_ble_eq_true rfl) ⟨rfl, rfl, rfl⟩
abbrev zb_MPainter_area : ByteArray := prog_16_method_25_code
def zy_MPainter_area : MethodName := ⟨"OrreryBoxModel$Painter", "area", "(III)J"⟩
theorem zc_MPainter_area : Cond.code zy_MPainter_area zb_MPainter_area 4 (some .long) ∈ gw := gw_t 2116 (by decide +kernel) rfl
theorem zq_MPainter_area : zy_MPainter_area.cls ≠ "java/lang/invoke/MethodHandle" ∧ zy_MPainter_area.cls ≠ "java/lang/invoke/VarHandle" ∧ (parseMethodDescriptor zy_MPainter_area.desc).map (fun d => d.parameters.length) = some 3 := by decide +kernel
theorem zd_MPainter_area_0 : decode zb_MPainter_area 0 = .ok (.aload_n 0, 1) := by decide +kernel
theorem zd_MPainter_area_1 : decode zb_MPainter_area 1 = .ok (.getfield 49, 3) := by decide +kernel
theorem zd_MPainter_area_4 : decode zb_MPainter_area 4 = .ok (.iload_n 2, 1) := by decide +kernel
theorem zd_MPainter_area_5 : decode zb_MPainter_area 5 = .ok (.laload, 1) := by decide +kernel
theorem zd_MPainter_area_6 : decode zb_MPainter_area 6 = .ok (.aload_n 0, 1) := by decide +kernel
theorem zd_MPainter_area_7 : decode zb_MPainter_area 7 = .ok (.getfield 49, 3) := by decide +kernel
theorem zd_MPainter_area_10 : decode zb_MPainter_area 10 = .ok (.iload_n 1, 1) := by decide +kernel
theorem zd_MPainter_area_11 : decode zb_MPainter_area 11 = .ok (.laload, 1) := by decide +kernel
theorem zd_MPainter_area_12 : decode zb_MPainter_area 12 = .ok (.lsub, 1) := by decide +kernel
theorem zd_MPainter_area_13 : decode zb_MPainter_area 13 = .ok (.aload_n 0, 1) := by decide +kernel
theorem zd_MPainter_area_14 : decode zb_MPainter_area 14 = .ok (.getfield 52, 3) := by decide +kernel
theorem zd_MPainter_area_17 : decode zb_MPainter_area 17 = .ok (.iload_n 3, 1) := by decide +kernel
theorem zd_MPainter_area_18 : decode zb_MPainter_area 18 = .ok (.laload, 1) := by decide +kernel
theorem zd_MPainter_area_19 : decode zb_MPainter_area 19 = .ok (.aload_n 0, 1) := by decide +kernel
theorem zd_MPainter_area_20 : decode zb_MPainter_area 20 = .ok (.getfield 52, 3) := by decide +kernel
theorem zd_MPainter_area_23 : decode zb_MPainter_area 23 = .ok (.iload_n 1, 1) := by decide +kernel
theorem zd_MPainter_area_24 : decode zb_MPainter_area 24 = .ok (.laload, 1) := by decide +kernel
theorem zd_MPainter_area_25 : decode zb_MPainter_area 25 = .ok (.lsub, 1) := by decide +kernel
theorem zd_MPainter_area_26 : decode zb_MPainter_area 26 = .ok (.lmul, 1) := by decide +kernel
theorem zd_MPainter_area_27 : decode zb_MPainter_area 27 = .ok (.aload_n 0, 1) := by decide +kernel
theorem zd_MPainter_area_28 : decode zb_MPainter_area 28 = .ok (.getfield 49, 3) := by decide +kernel
theorem zd_MPainter_area_31 : decode zb_MPainter_area 31 = .ok (.iload_n 3, 1) := by decide +kernel
theorem zd_MPainter_area_32 : decode zb_MPainter_area 32 = .ok (.laload, 1) := by decide +kernel
theorem zd_MPainter_area_33 : decode zb_MPainter_area 33 = .ok (.aload_n 0, 1) := by decide +kernel
theorem zd_MPainter_area_34 : decode zb_MPainter_area 34 = .ok (.getfield 49, 3) := by decide +kernel
theorem zd_MPainter_area_37 : decode zb_MPainter_area 37 = .ok (.iload_n 1, 1) := by decide +kernel
theorem zd_MPainter_area_38 : decode zb_MPainter_area 38 = .ok (.laload, 1) := by decide +kernel
theorem zd_MPainter_area_39 : decode zb_MPainter_area 39 = .ok (.lsub, 1) := by decide +kernel
theorem zd_MPainter_area_40 : decode zb_MPainter_area 40 = .ok (.aload_n 0, 1) := by decide +kernel
theorem zd_MPainter_area_41 : decode zb_MPainter_area 41 = .ok (.getfield 52, 3) := by decide +kernel
theorem zd_MPainter_area_44 : decode zb_MPainter_area 44 = .ok (.iload_n 2, 1) := by decide +kernel
theorem zd_MPainter_area_45 : decode zb_MPainter_area 45 = .ok (.laload, 1) := by decide +kernel
theorem zd_MPainter_area_46 : decode zb_MPainter_area 46 = .ok (.aload_n 0, 1) := by decide +kernel
theorem zd_MPainter_area_47 : decode zb_MPainter_area 47 = .ok (.getfield 52, 3) := by decide +kernel
theorem zd_MPainter_area_50 : decode zb_MPainter_area 50 = .ok (.iload_n 1, 1) := by decide +kernel
theorem zd_MPainter_area_51 : decode zb_MPainter_area 51 = .ok (.laload, 1) := by decide +kernel
theorem zd_MPainter_area_52 : decode zb_MPainter_area 52 = .ok (.lsub, 1) := by decide +kernel
theorem zd_MPainter_area_53 : decode zb_MPainter_area 53 = .ok (.lmul, 1) := by decide +kernel
theorem zd_MPainter_area_54 : decode zb_MPainter_area 54 = .ok (.lsub, 1) := by decide +kernel
theorem zd_MPainter_area_55 : decode zb_MPainter_area 55 = .ok (.lreturn, 1) := by decide +kernel
def F_MPainter_area (sh : zSh) (mm : zMem) (o : Nat) (x0_ : Int32) (x1_ : Int32) (x2_ : Int32) : Option (Int64 × zMem) := zoS (sh o) 13 (fun le2 => Option.bind (mm.2.2 o 27) (fun a3 => zoS (sh a3) 102 (fun le5 => if (x1_ : Int32) < 0 ∨ le5 ≤ (x1_ : Int32).toNatClampNeg then none else zoS (sh o) 13 (fun le8 => Option.bind (mm.2.2 o 27) (fun a9 => zoS (sh a9) 102 (fun le11 => if (x0_ : Int32) < 0 ∨ le11 ≤ (x0_ : Int32).toNatClampNeg then none else zoS (sh o) 13 (fun le14 => Option.bind (mm.2.2 o 28) (fun a15 => zoS (sh a15) 102 (fun le17 => if (x2_ : Int32) < 0 ∨ le17 ≤ (x2_ : Int32).toNatClampNeg then none else zoS (sh o) 13 (fun le20 => Option.bind (mm.2.2 o 28) (fun a21 => zoS (sh a21) 102 (fun le23 => if (x0_ : Int32) < 0 ∨ le23 ≤ (x0_ : Int32).toNatClampNeg then none else zoS (sh o) 13 (fun le26 => Option.bind (mm.2.2 o 27) (fun a27 => zoS (sh a27) 102 (fun le29 => if (x2_ : Int32) < 0 ∨ le29 ≤ (x2_ : Int32).toNatClampNeg then none else zoS (sh o) 13 (fun le32 => Option.bind (mm.2.2 o 27) (fun a33 => zoS (sh a33) 102 (fun le35 => if (x0_ : Int32) < 0 ∨ le35 ≤ (x0_ : Int32).toNatClampNeg then none else zoS (sh o) 13 (fun le38 => Option.bind (mm.2.2 o 28) (fun a39 => zoS (sh a39) 102 (fun le41 => if (x1_ : Int32) < 0 ∨ le41 ≤ (x1_ : Int32).toNatClampNeg then none else zoS (sh o) 13 (fun le44 => Option.bind (mm.2.2 o 28) (fun a45 => zoS (sh a45) 102 (fun le47 => if (x0_ : Int32) < 0 ∨ le47 ≤ (x0_ : Int32).toNatClampNeg then none else some (((((mm.2.1 a3 (x1_ : Int32).toNatClampNeg) - (mm.2.1 a9 (x0_ : Int32).toNatClampNeg)) * ((mm.2.1 a15 (x2_ : Int32).toNatClampNeg) - (mm.2.1 a21 (x0_ : Int32).toNatClampNeg))) - (((mm.2.1 a27 (x2_ : Int32).toNatClampNeg) - (mm.2.1 a33 (x0_ : Int32).toNatClampNeg)) * ((mm.2.1 a39 (x1_ : Int32).toNatClampNeg) - (mm.2.1 a45 (x0_ : Int32).toNatClampNeg)))), mm)))))))))))))))))))))))))
set_option maxHeartbeats 4000000 in
set_option maxRecDepth 100000 in
theorem k_MPainter_area (l : Launch) (D : va_G) (tA : Nat → ClassId) (b : Nat) (sh : zSh) (n : Nat) {mm : zMem} {o : Nat} {x0_ : Int32} {x1_ : Int32} {x2_ : Int32} {r : (Int64 × zMem)} (h : F_MPainter_area sh mm o x0_ x1_ x2_ = some r) : zM l D tA b zy_MPainter_area zb_MPainter_area 4 (some .long) 0 0 0 0 [.ref (b + o), .int x0_, .int x1_, .int x2_] (zW tA b sh mm) n (zE (some (.long (r.1))) (zW tA b sh r.2) n) := by
  unfold F_MPainter_area at h
  refine zM_of (own := "OrreryBoxModel$Painter") (plainFor_of_name (by decide)) rfl (Nat.le_of_ble_eq_true rfl) (fun p e s m below meth c F hr hin hH => ?_)
  refine zr_aload_n F zd_MPainter_area_0 rfl ?_
  obtain ⟨le2, hs1, h⟩ := zoS_s h
  obtain ⟨a3, ea3, h⟩ := zoB_s h
  refine zr_get F 13 27 zd_MPainter_area_1 (zW_o hs1 (by decide)) rfl (by decide) zw_1607 rfl (by rfl) ?_
  refine zr_tor ea3 ?_
  refine zr_iload_n F zd_MPainter_area_4 rfl ?_
  obtain ⟨le5, hs4, h⟩ := zoS_s h
  obtain ⟨hi6, h⟩ := zoI_s h
  refine zr_lald F zd_MPainter_area_5 (zW_a2 hs4) hi6 ?_
  refine zr_aload_n F zd_MPainter_area_6 rfl ?_
  obtain ⟨le8, hs7, h⟩ := zoS_s h
  obtain ⟨a9, ea9, h⟩ := zoB_s h
  refine zr_get F 13 27 zd_MPainter_area_7 (zW_o hs7 (by decide)) rfl (by decide) zw_1607 rfl (by rfl) ?_
  refine zr_tor ea9 ?_
  refine zr_iload_n F zd_MPainter_area_10 rfl ?_
  refine zr_pcn 11 rfl ?_
  obtain ⟨le11, hs10, h⟩ := zoS_s h
  obtain ⟨hi12, h⟩ := zoI_s h
  refine zr_lald F zd_MPainter_area_11 (zW_a2 hs10) hi12 ?_
  refine zr_lsub F zd_MPainter_area_12 ?_
  refine zr_aload_n F zd_MPainter_area_13 rfl ?_
  obtain ⟨le14, hs13, h⟩ := zoS_s h
  obtain ⟨a15, ea15, h⟩ := zoB_s h
  refine zr_get F 13 28 zd_MPainter_area_14 (zW_o hs13 (by decide)) rfl (by decide) zw_1608 rfl (by rfl) ?_
  refine zr_tor ea15 ?_
  refine zr_iload_n F zd_MPainter_area_17 rfl ?_
  obtain ⟨le17, hs16, h⟩ := zoS_s h
  obtain ⟨hi18, h⟩ := zoI_s h
  refine zr_lald F zd_MPainter_area_18 (zW_a2 hs16) hi18 ?_
  refine zr_aload_n F zd_MPainter_area_19 rfl ?_
  obtain ⟨le20, hs19, h⟩ := zoS_s h
  obtain ⟨a21, ea21, h⟩ := zoB_s h
  refine zr_get F 13 28 zd_MPainter_area_20 (zW_o hs19 (by decide)) rfl (by decide) zw_1608 rfl (by rfl) ?_
  refine zr_tor ea21 ?_
  refine zr_pcn 23 rfl ?_
  refine zr_iload_n F zd_MPainter_area_23 rfl ?_
  obtain ⟨le23, hs22, h⟩ := zoS_s h
  obtain ⟨hi24, h⟩ := zoI_s h
  refine zr_lald F zd_MPainter_area_24 (zW_a2 hs22) hi24 ?_
  refine zr_lsub F zd_MPainter_area_25 ?_
  refine zr_lmul F zd_MPainter_area_26 ?_
  refine zr_aload_n F zd_MPainter_area_27 rfl ?_
  obtain ⟨le26, hs25, h⟩ := zoS_s h
  obtain ⟨a27, ea27, h⟩ := zoB_s h
  refine zr_get F 13 27 zd_MPainter_area_28 (zW_o hs25 (by decide)) rfl (by decide) zw_1607 rfl (by rfl) ?_
  refine zr_tor ea27 ?_
  refine zr_iload_n F zd_MPainter_area_31 rfl ?_
  obtain ⟨le29, hs28, h⟩ := zoS_s h
  obtain ⟨hi30, h⟩ := zoI_s h
  refine zr_lald F zd_MPainter_area_32 (zW_a2 hs28) hi30 ?_
  refine zr_pcn 33 rfl ?_
  refine zr_aload_n F zd_MPainter_area_33 rfl ?_
  obtain ⟨le32, hs31, h⟩ := zoS_s h
  obtain ⟨a33, ea33, h⟩ := zoB_s h
  refine zr_get F 13 27 zd_MPainter_area_34 (zW_o hs31 (by decide)) rfl (by decide) zw_1607 rfl (by rfl) ?_
  refine zr_tor ea33 ?_
  refine zr_iload_n F zd_MPainter_area_37 rfl ?_
  obtain ⟨le35, hs34, h⟩ := zoS_s h
  obtain ⟨hi36, h⟩ := zoI_s h
  refine zr_lald F zd_MPainter_area_38 (zW_a2 hs34) hi36 ?_
  refine zr_lsub F zd_MPainter_area_39 ?_
  refine zr_aload_n F zd_MPainter_area_40 rfl ?_
  obtain ⟨le38, hs37, h⟩ := zoS_s h
  obtain ⟨a39, ea39, h⟩ := zoB_s h
  refine zr_get F 13 28 zd_MPainter_area_41 (zW_o hs37 (by decide)) rfl (by decide) zw_1608 rfl (by rfl) ?_
  refine zr_tor ea39 ?_
  refine zr_iload_n F zd_MPainter_area_44 rfl ?_
  refine zr_pcn 45 rfl ?_
  obtain ⟨le41, hs40, h⟩ := zoS_s h
  obtain ⟨hi42, h⟩ := zoI_s h
  refine zr_lald F zd_MPainter_area_45 (zW_a2 hs40) hi42 ?_
  refine zr_aload_n F zd_MPainter_area_46 rfl ?_
  obtain ⟨le44, hs43, h⟩ := zoS_s h
  obtain ⟨a45, ea45, h⟩ := zoB_s h
  refine zr_get F 13 28 zd_MPainter_area_47 (zW_o hs43 (by decide)) rfl (by decide) zw_1608 rfl (by rfl) ?_
  refine zr_tor ea45 ?_
  refine zr_iload_n F zd_MPainter_area_50 rfl ?_
  obtain ⟨le47, hs46, h⟩ := zoS_s h
  obtain ⟨hi48, h⟩ := zoI_s h
  refine zr_lald F zd_MPainter_area_51 (zW_a2 hs46) hi48 ?_
  refine zr_lsub F zd_MPainter_area_52 ?_
  refine zr_lmul F zd_MPainter_area_53 ?_
  refine zr_lsub F zd_MPainter_area_54 ?_
  refine zr_pcn 55 rfl ?_
  obtain rfl := Option.some.inj h
  exact zr_lret F hr zd_MPainter_area_55 (Nat.le_of_ble_eq_true rfl) (Nat.le_of_ble_eq_true rfl) ⟨rfl, rfl, rfl⟩
abbrev zb_MPainter_edge : ByteArray := prog_16_method_27_code
def zy_MPainter_edge : MethodName := ⟨"OrreryBoxModel$Painter", "edge", "(IIJJ)J"⟩
theorem zc_MPainter_edge : Cond.code zy_MPainter_edge zb_MPainter_edge 7 (some .long) ∈ gw := gw_t 2129 (by decide +kernel) rfl
theorem zq_MPainter_edge : zy_MPainter_edge.cls ≠ "java/lang/invoke/MethodHandle" ∧ zy_MPainter_edge.cls ≠ "java/lang/invoke/VarHandle" ∧ (parseMethodDescriptor zy_MPainter_edge.desc).map (fun d => d.parameters.length) = some 4 := by decide +kernel
theorem zd_MPainter_edge_0 : decode zb_MPainter_edge 0 = .ok (.aload_n 0, 1) := by decide +kernel
theorem zd_MPainter_edge_1 : decode zb_MPainter_edge 1 = .ok (.getfield 49, 3) := by decide +kernel
theorem zd_MPainter_edge_4 : decode zb_MPainter_edge 4 = .ok (.iload_n 2, 1) := by decide +kernel
theorem zd_MPainter_edge_5 : decode zb_MPainter_edge 5 = .ok (.laload, 1) := by decide +kernel
theorem zd_MPainter_edge_6 : decode zb_MPainter_edge 6 = .ok (.aload_n 0, 1) := by decide +kernel
theorem zd_MPainter_edge_7 : decode zb_MPainter_edge 7 = .ok (.getfield 49, 3) := by decide +kernel
theorem zd_MPainter_edge_10 : decode zb_MPainter_edge 10 = .ok (.iload_n 1, 1) := by decide +kernel
theorem zd_MPainter_edge_11 : decode zb_MPainter_edge 11 = .ok (.laload, 1) := by decide +kernel
theorem zd_MPainter_edge_12 : decode zb_MPainter_edge 12 = .ok (.lsub, 1) := by decide +kernel
theorem zd_MPainter_edge_13 : decode zb_MPainter_edge 13 = .ok (.lload 5, 2) := by decide +kernel
theorem zd_MPainter_edge_15 : decode zb_MPainter_edge 15 = .ok (.aload_n 0, 1) := by decide +kernel
theorem zd_MPainter_edge_16 : decode zb_MPainter_edge 16 = .ok (.getfield 52, 3) := by decide +kernel
theorem zd_MPainter_edge_19 : decode zb_MPainter_edge 19 = .ok (.iload_n 1, 1) := by decide +kernel
theorem zd_MPainter_edge_20 : decode zb_MPainter_edge 20 = .ok (.laload, 1) := by decide +kernel
theorem zd_MPainter_edge_21 : decode zb_MPainter_edge 21 = .ok (.lsub, 1) := by decide +kernel
theorem zd_MPainter_edge_22 : decode zb_MPainter_edge 22 = .ok (.lmul, 1) := by decide +kernel
theorem zd_MPainter_edge_23 : decode zb_MPainter_edge 23 = .ok (.aload_n 0, 1) := by decide +kernel
theorem zd_MPainter_edge_24 : decode zb_MPainter_edge 24 = .ok (.getfield 52, 3) := by decide +kernel
theorem zd_MPainter_edge_27 : decode zb_MPainter_edge 27 = .ok (.iload_n 2, 1) := by decide +kernel
theorem zd_MPainter_edge_28 : decode zb_MPainter_edge 28 = .ok (.laload, 1) := by decide +kernel
theorem zd_MPainter_edge_29 : decode zb_MPainter_edge 29 = .ok (.aload_n 0, 1) := by decide +kernel
theorem zd_MPainter_edge_30 : decode zb_MPainter_edge 30 = .ok (.getfield 52, 3) := by decide +kernel
theorem zd_MPainter_edge_33 : decode zb_MPainter_edge 33 = .ok (.iload_n 1, 1) := by decide +kernel
theorem zd_MPainter_edge_34 : decode zb_MPainter_edge 34 = .ok (.laload, 1) := by decide +kernel
theorem zd_MPainter_edge_35 : decode zb_MPainter_edge 35 = .ok (.lsub, 1) := by decide +kernel
theorem zd_MPainter_edge_36 : decode zb_MPainter_edge 36 = .ok (.lload_n 3, 1) := by decide +kernel
theorem zd_MPainter_edge_37 : decode zb_MPainter_edge 37 = .ok (.aload_n 0, 1) := by decide +kernel
theorem zd_MPainter_edge_38 : decode zb_MPainter_edge 38 = .ok (.getfield 49, 3) := by decide +kernel
theorem zd_MPainter_edge_41 : decode zb_MPainter_edge 41 = .ok (.iload_n 1, 1) := by decide +kernel
theorem zd_MPainter_edge_42 : decode zb_MPainter_edge 42 = .ok (.laload, 1) := by decide +kernel
theorem zd_MPainter_edge_43 : decode zb_MPainter_edge 43 = .ok (.lsub, 1) := by decide +kernel
theorem zd_MPainter_edge_44 : decode zb_MPainter_edge 44 = .ok (.lmul, 1) := by decide +kernel
theorem zd_MPainter_edge_45 : decode zb_MPainter_edge 45 = .ok (.lsub, 1) := by decide +kernel
theorem zd_MPainter_edge_46 : decode zb_MPainter_edge 46 = .ok (.lreturn, 1) := by decide +kernel
def F_MPainter_edge (sh : zSh) (mm : zMem) (o : Nat) (x0_ : Int32) (x1_ : Int32) (x2_ : Int64) (x3_ : Int64) : Option (Int64 × zMem) := zoS (sh o) 13 (fun le2 => Option.bind (mm.2.2 o 27) (fun a3 => zoS (sh a3) 102 (fun le5 => if (x1_ : Int32) < 0 ∨ le5 ≤ (x1_ : Int32).toNatClampNeg then none else zoS (sh o) 13 (fun le8 => Option.bind (mm.2.2 o 27) (fun a9 => zoS (sh a9) 102 (fun le11 => if (x0_ : Int32) < 0 ∨ le11 ≤ (x0_ : Int32).toNatClampNeg then none else zoS (sh o) 13 (fun le14 => Option.bind (mm.2.2 o 28) (fun a15 => zoS (sh a15) 102 (fun le17 => if (x0_ : Int32) < 0 ∨ le17 ≤ (x0_ : Int32).toNatClampNeg then none else zoS (sh o) 13 (fun le20 => Option.bind (mm.2.2 o 28) (fun a21 => zoS (sh a21) 102 (fun le23 => if (x1_ : Int32) < 0 ∨ le23 ≤ (x1_ : Int32).toNatClampNeg then none else zoS (sh o) 13 (fun le26 => Option.bind (mm.2.2 o 28) (fun a27 => zoS (sh a27) 102 (fun le29 => if (x0_ : Int32) < 0 ∨ le29 ≤ (x0_ : Int32).toNatClampNeg then none else zoS (sh o) 13 (fun le32 => Option.bind (mm.2.2 o 27) (fun a33 => zoS (sh a33) 102 (fun le35 => if (x0_ : Int32) < 0 ∨ le35 ≤ (x0_ : Int32).toNatClampNeg then none else some (((((mm.2.1 a3 (x1_ : Int32).toNatClampNeg) - (mm.2.1 a9 (x0_ : Int32).toNatClampNeg)) * (x3_ - (mm.2.1 a15 (x0_ : Int32).toNatClampNeg))) - (((mm.2.1 a21 (x1_ : Int32).toNatClampNeg) - (mm.2.1 a27 (x0_ : Int32).toNatClampNeg)) * (x2_ - (mm.2.1 a33 (x0_ : Int32).toNatClampNeg)))), mm)))))))))))))))))))
set_option maxHeartbeats 4000000 in
set_option maxRecDepth 100000 in
theorem k_MPainter_edge (l : Launch) (D : va_G) (tA : Nat → ClassId) (b : Nat) (sh : zSh) (n : Nat) {mm : zMem} {o : Nat} {x0_ : Int32} {x1_ : Int32} {x2_ : Int64} {x3_ : Int64} {r : (Int64 × zMem)} (h : F_MPainter_edge sh mm o x0_ x1_ x2_ x3_ = some r) : zM l D tA b zy_MPainter_edge zb_MPainter_edge 7 (some .long) 0 0 0 0 [.ref (b + o), .int x0_, .int x1_, .long x2_, .long x3_] (zW tA b sh mm) n (zE (some (.long (r.1))) (zW tA b sh r.2) n) := by
  unfold F_MPainter_edge at h
  refine zM_of (own := "OrreryBoxModel$Painter") (plainFor_of_name (by decide)) rfl (Nat.le_of_ble_eq_true rfl) (fun p e s m below meth c F hr hin hH => ?_)
  refine zr_aload_n F zd_MPainter_edge_0 rfl ?_
  obtain ⟨le2, hs1, h⟩ := zoS_s h
  obtain ⟨a3, ea3, h⟩ := zoB_s h
  refine zr_get F 13 27 zd_MPainter_edge_1 (zW_o hs1 (by decide)) rfl (by decide) zw_1607 rfl (by rfl) ?_
  refine zr_tor ea3 ?_
  refine zr_iload_n F zd_MPainter_edge_4 rfl ?_
  obtain ⟨le5, hs4, h⟩ := zoS_s h
  obtain ⟨hi6, h⟩ := zoI_s h
  refine zr_lald F zd_MPainter_edge_5 (zW_a2 hs4) hi6 ?_
  refine zr_aload_n F zd_MPainter_edge_6 rfl ?_
  obtain ⟨le8, hs7, h⟩ := zoS_s h
  obtain ⟨a9, ea9, h⟩ := zoB_s h
  refine zr_get F 13 27 zd_MPainter_edge_7 (zW_o hs7 (by decide)) rfl (by decide) zw_1607 rfl (by rfl) ?_
  refine zr_tor ea9 ?_
  refine zr_iload_n F zd_MPainter_edge_10 rfl ?_
  refine zr_pcn 11 rfl ?_
  obtain ⟨le11, hs10, h⟩ := zoS_s h
  obtain ⟨hi12, h⟩ := zoI_s h
  refine zr_lald F zd_MPainter_edge_11 (zW_a2 hs10) hi12 ?_
  refine zr_lsub F zd_MPainter_edge_12 ?_
  refine zr_lload F zd_MPainter_edge_13 rfl ?_
  refine zr_aload_n F zd_MPainter_edge_15 rfl ?_
  obtain ⟨le14, hs13, h⟩ := zoS_s h
  obtain ⟨a15, ea15, h⟩ := zoB_s h
  refine zr_get F 13 28 zd_MPainter_edge_16 (zW_o hs13 (by decide)) rfl (by decide) zw_1608 rfl (by rfl) ?_
  refine zr_tor ea15 ?_
  refine zr_iload_n F zd_MPainter_edge_19 rfl ?_
  obtain ⟨le17, hs16, h⟩ := zoS_s h
  obtain ⟨hi18, h⟩ := zoI_s h
  refine zr_lald F zd_MPainter_edge_20 (zW_a2 hs16) hi18 ?_
  refine zr_lsub F zd_MPainter_edge_21 ?_
  refine zr_pcn 22 rfl ?_
  refine zr_lmul F zd_MPainter_edge_22 ?_
  refine zr_aload_n F zd_MPainter_edge_23 rfl ?_
  obtain ⟨le20, hs19, h⟩ := zoS_s h
  obtain ⟨a21, ea21, h⟩ := zoB_s h
  refine zr_get F 13 28 zd_MPainter_edge_24 (zW_o hs19 (by decide)) rfl (by decide) zw_1608 rfl (by rfl) ?_
  refine zr_tor ea21 ?_
  refine zr_iload_n F zd_MPainter_edge_27 rfl ?_
  obtain ⟨le23, hs22, h⟩ := zoS_s h
  obtain ⟨hi24, h⟩ := zoI_s h
  refine zr_lald F zd_MPainter_edge_28 (zW_a2 hs22) hi24 ?_
  refine zr_aload_n F zd_MPainter_edge_29 rfl ?_
  obtain ⟨le26, hs25, h⟩ := zoS_s h
  obtain ⟨a27, ea27, h⟩ := zoB_s h
  refine zr_get F 13 28 zd_MPainter_edge_30 (zW_o hs25 (by decide)) rfl (by decide) zw_1608 rfl (by rfl) ?_
  refine zr_tor ea27 ?_
  refine zr_iload_n F zd_MPainter_edge_33 rfl ?_
  refine zr_pcn 34 rfl ?_
  obtain ⟨le29, hs28, h⟩ := zoS_s h
  obtain ⟨hi30, h⟩ := zoI_s h
  refine zr_lald F zd_MPainter_edge_34 (zW_a2 hs28) hi30 ?_
  refine zr_lsub F zd_MPainter_edge_35 ?_
  refine zr_lload_n F zd_MPainter_edge_36 rfl ?_
  refine zr_aload_n F zd_MPainter_edge_37 rfl ?_
  obtain ⟨le32, hs31, h⟩ := zoS_s h
  obtain ⟨a33, ea33, h⟩ := zoB_s h
  refine zr_get F 13 27 zd_MPainter_edge_38 (zW_o hs31 (by decide)) rfl (by decide) zw_1607 rfl (by rfl) ?_
  refine zr_tor ea33 ?_
  refine zr_iload_n F zd_MPainter_edge_41 rfl ?_
  obtain ⟨le35, hs34, h⟩ := zoS_s h
  obtain ⟨hi36, h⟩ := zoI_s h
  refine zr_lald F zd_MPainter_edge_42 (zW_a2 hs34) hi36 ?_
  refine zr_lsub F zd_MPainter_edge_43 ?_
  refine zr_pcn 44 rfl ?_
  refine zr_lmul F zd_MPainter_edge_44 ?_
  refine zr_lsub F zd_MPainter_edge_45 ?_
  obtain rfl := Option.some.inj h
  exact zr_lret F hr zd_MPainter_edge_46 (Nat.le_of_ble_eq_true rfl) (Nat.le_of_ble_eq_true rfl) ⟨rfl, rfl, rfl⟩
abbrev zb_MPainter_inside : ByteArray := prog_16_method_28_code
def zy_MPainter_inside : MethodName := ⟨"OrreryBoxModel$Painter", "inside", "(IIJJ)Z"⟩
theorem zc_MPainter_inside : Cond.code zy_MPainter_inside zb_MPainter_inside 9 (some .boolean) ∈ gw := gw_t 2125 (by decide +kernel) rfl
theorem zq_MPainter_inside : zy_MPainter_inside.cls ≠ "java/lang/invoke/MethodHandle" ∧ zy_MPainter_inside.cls ≠ "java/lang/invoke/VarHandle" ∧ (parseMethodDescriptor zy_MPainter_inside.desc).map (fun d => d.parameters.length) = some 4 := by decide +kernel
theorem zd_MPainter_inside_0 : decode zb_MPainter_inside 0 = .ok (.aload_n 0, 1) := by decide +kernel
theorem zd_MPainter_inside_1 : decode zb_MPainter_inside 1 = .ok (.iload_n 1, 1) := by decide +kernel
theorem zd_MPainter_inside_2 : decode zb_MPainter_inside 2 = .ok (.iload_n 2, 1) := by decide +kernel
theorem zd_MPainter_inside_3 : decode zb_MPainter_inside 3 = .ok (.lload_n 3, 1) := by decide +kernel
theorem zd_MPainter_inside_4 : decode zb_MPainter_inside 4 = .ok (.lload 5, 2) := by decide +kernel
theorem zd_MPainter_inside_6 : decode zb_MPainter_inside 6 = .ok (.invokevirtual 281, 3) := by decide +kernel
theorem zd_MPainter_inside_9 : decode zb_MPainter_inside 9 = .ok (.lstore 7, 2) := by decide +kernel
theorem zd_MPainter_inside_11 : decode zb_MPainter_inside 11 = .ok (.lload 7, 2) := by decide +kernel
theorem zd_MPainter_inside_13 : decode zb_MPainter_inside 13 = .ok (.lconst 0, 1) := by decide +kernel
theorem zd_MPainter_inside_14 : decode zb_MPainter_inside 14 = .ok (.lcmp, 1) := by decide +kernel
theorem zd_MPainter_inside_15 : decode zb_MPainter_inside 15 = .ok (.ifCond .gt 58, 3) := by decide +kernel
theorem zd_MPainter_inside_18 : decode zb_MPainter_inside 18 = .ok (.lload 7, 2) := by decide +kernel
theorem zd_MPainter_inside_20 : decode zb_MPainter_inside 20 = .ok (.lconst 0, 1) := by decide +kernel
theorem zd_MPainter_inside_21 : decode zb_MPainter_inside 21 = .ok (.lcmp, 1) := by decide +kernel
theorem zd_MPainter_inside_22 : decode zb_MPainter_inside 22 = .ok (.ifCond .ne 55, 3) := by decide +kernel
theorem zd_MPainter_inside_25 : decode zb_MPainter_inside 25 = .ok (.aload_n 0, 1) := by decide +kernel
theorem zd_MPainter_inside_26 : decode zb_MPainter_inside 26 = .ok (.getfield 52, 3) := by decide +kernel
theorem zd_MPainter_inside_29 : decode zb_MPainter_inside 29 = .ok (.iload_n 2, 1) := by decide +kernel
theorem zd_MPainter_inside_30 : decode zb_MPainter_inside 30 = .ok (.laload, 1) := by decide +kernel
theorem zd_MPainter_inside_31 : decode zb_MPainter_inside 31 = .ok (.aload_n 0, 1) := by decide +kernel
theorem zd_MPainter_inside_32 : decode zb_MPainter_inside 32 = .ok (.getfield 52, 3) := by decide +kernel
theorem zd_MPainter_inside_35 : decode zb_MPainter_inside 35 = .ok (.iload_n 1, 1) := by decide +kernel
theorem zd_MPainter_inside_36 : decode zb_MPainter_inside 36 = .ok (.laload, 1) := by decide +kernel
theorem zd_MPainter_inside_37 : decode zb_MPainter_inside 37 = .ok (.lcmp, 1) := by decide +kernel
theorem zd_MPainter_inside_38 : decode zb_MPainter_inside 38 = .ok (.ifCond .lt 35, 3) := by decide +kernel
theorem zd_MPainter_inside_41 : decode zb_MPainter_inside 41 = .ok (.aload_n 0, 1) := by decide +kernel
theorem zd_MPainter_inside_42 : decode zb_MPainter_inside 42 = .ok (.getfield 52, 3) := by decide +kernel
theorem zd_MPainter_inside_45 : decode zb_MPainter_inside 45 = .ok (.iload_n 2, 1) := by decide +kernel
theorem zd_MPainter_inside_46 : decode zb_MPainter_inside 46 = .ok (.laload, 1) := by decide +kernel
theorem zd_MPainter_inside_47 : decode zb_MPainter_inside 47 = .ok (.aload_n 0, 1) := by decide +kernel
theorem zd_MPainter_inside_48 : decode zb_MPainter_inside 48 = .ok (.getfield 52, 3) := by decide +kernel
theorem zd_MPainter_inside_51 : decode zb_MPainter_inside 51 = .ok (.iload_n 1, 1) := by decide +kernel
theorem zd_MPainter_inside_52 : decode zb_MPainter_inside 52 = .ok (.laload, 1) := by decide +kernel
theorem zd_MPainter_inside_53 : decode zb_MPainter_inside 53 = .ok (.lcmp, 1) := by decide +kernel
theorem zd_MPainter_inside_54 : decode zb_MPainter_inside 54 = .ok (.ifCond .ne 23, 3) := by decide +kernel
theorem zd_MPainter_inside_57 : decode zb_MPainter_inside 57 = .ok (.aload_n 0, 1) := by decide +kernel
theorem zd_MPainter_inside_58 : decode zb_MPainter_inside 58 = .ok (.getfield 49, 3) := by decide +kernel
theorem zd_MPainter_inside_61 : decode zb_MPainter_inside 61 = .ok (.iload_n 2, 1) := by decide +kernel
theorem zd_MPainter_inside_62 : decode zb_MPainter_inside 62 = .ok (.laload, 1) := by decide +kernel
theorem zd_MPainter_inside_63 : decode zb_MPainter_inside 63 = .ok (.aload_n 0, 1) := by decide +kernel
theorem zd_MPainter_inside_64 : decode zb_MPainter_inside 64 = .ok (.getfield 49, 3) := by decide +kernel
theorem zd_MPainter_inside_67 : decode zb_MPainter_inside 67 = .ok (.iload_n 1, 1) := by decide +kernel
theorem zd_MPainter_inside_68 : decode zb_MPainter_inside 68 = .ok (.laload, 1) := by decide +kernel
theorem zd_MPainter_inside_69 : decode zb_MPainter_inside 69 = .ok (.lcmp, 1) := by decide +kernel
theorem zd_MPainter_inside_70 : decode zb_MPainter_inside 70 = .ok (.ifCond .le 7, 3) := by decide +kernel
theorem zd_MPainter_inside_73 : decode zb_MPainter_inside 73 = .ok (.iconst 1, 1) := by decide +kernel
theorem zd_MPainter_inside_74 : decode zb_MPainter_inside 74 = .ok (.goto 4, 3) := by decide +kernel
theorem zd_MPainter_inside_77 : decode zb_MPainter_inside 77 = .ok (.iconst 0, 1) := by decide +kernel
theorem zd_MPainter_inside_78 : decode zb_MPainter_inside 78 = .ok (.ireturn, 1) := by decide +kernel
theorem zw_2126 : (Jvm.Cond.methodLink "OrreryBoxModel$Painter" (281 : Nat) ({ cls := "OrreryBoxModel$Painter", name := "edge", desc := "(IIJJ)J" } : Jvm.MethodName)) ∈ gw := gw_t 2126 (by decide +kernel) rfl
theorem zw_2128 : (Jvm.Cond.instanceMethod ({ cls := "OrreryBoxModel$Painter", name := "edge", desc := "(IIJJ)J" } : Jvm.MethodName)) ∈ gw := gw_t 2128 (by decide +kernel) rfl
theorem zv_111 : (Jvm.Cond.selects "OrreryBoxModel$Painter" (⟨"OrreryBoxModel$Painter", "edge", "(IIJJ)J"⟩ : MethodName) ⟨"OrreryBoxModel$Painter", "edge", "(IIJJ)J"⟩) ∈ gw := gw_s 111 (by decide +kernel) rfl
theorem zs_MPainter_281 : zwV "OrreryBoxModel$Painter" 281 "OrreryBoxModel$Painter" zy_MPainter_edge zb_MPainter_edge 7 (some .long) := ⟨zw_2126, zw_2128, zv_111, zw_17, zc_MPainter_edge⟩
def F_MPainter_inside (sh : zSh) (mm : zMem) (o : Nat) (x0_ : Int32) (x1_ : Int32) (x2_ : Int64) (x3_ : Int64) : Option (Int32 × zMem) := zoS (sh o) 13 (fun le2 => Option.bind (F_MPainter_edge sh mm o x0_ x1_ x2_ x3_) (fun p3 => (if 0 < (lg_cmp p3.1 0) then some (1, p3.2) else (if (lg_cmp p3.1 0) = 0 then zoS (sh o) 13 (fun le7 => Option.bind ((p3.2).2.2 o 28) (fun a8 => zoS (sh a8) 102 (fun le10 => if (x1_ : Int32) < 0 ∨ le10 ≤ (x1_ : Int32).toNatClampNeg then none else zoS (sh o) 13 (fun le13 => Option.bind ((p3.2).2.2 o 28) (fun a14 => zoS (sh a14) 102 (fun le16 => if (x0_ : Int32) < 0 ∨ le16 ≤ (x0_ : Int32).toNatClampNeg then none else (if (lg_cmp ((p3.2).2.1 a8 (x1_ : Int32).toNatClampNeg) ((p3.2).2.1 a14 (x0_ : Int32).toNatClampNeg)) < 0 then some (1, p3.2) else zoS (sh o) 13 (fun le20 => Option.bind ((p3.2).2.2 o 28) (fun a21 => zoS (sh a21) 102 (fun le23 => if (x1_ : Int32) < 0 ∨ le23 ≤ (x1_ : Int32).toNatClampNeg then none else zoS (sh o) 13 (fun le26 => Option.bind ((p3.2).2.2 o 28) (fun a27 => zoS (sh a27) 102 (fun le29 => if (x0_ : Int32) < 0 ∨ le29 ≤ (x0_ : Int32).toNatClampNeg then none else (if (lg_cmp ((p3.2).2.1 a21 (x1_ : Int32).toNatClampNeg) ((p3.2).2.1 a27 (x0_ : Int32).toNatClampNeg)) = 0 then zoS (sh o) 13 (fun le33 => Option.bind ((p3.2).2.2 o 27) (fun a34 => zoS (sh a34) 102 (fun le36 => if (x1_ : Int32) < 0 ∨ le36 ≤ (x1_ : Int32).toNatClampNeg then none else zoS (sh o) 13 (fun le39 => Option.bind ((p3.2).2.2 o 27) (fun a40 => zoS (sh a40) 102 (fun le42 => if (x0_ : Int32) < 0 ∨ le42 ≤ (x0_ : Int32).toNatClampNeg then none else (if (lg_cmp ((p3.2).2.1 a34 (x1_ : Int32).toNatClampNeg) ((p3.2).2.1 a40 (x0_ : Int32).toNatClampNeg)) ≤ 0 then some (0, p3.2) else some (1, p3.2)))))))) else some (0, p3.2))))))))))))))) else some (0, p3.2)))))
set_option maxHeartbeats 4000000 in
set_option maxRecDepth 100000 in
theorem k_MPainter_inside (l : Launch) (D : va_G) (tA : Nat → ClassId) (b : Nat) (sh : zSh) (n : Nat) {mm : zMem} {o : Nat} {x0_ : Int32} {x1_ : Int32} {x2_ : Int64} {x3_ : Int64} {r : (Int32 × zMem)} (h : F_MPainter_inside sh mm o x0_ x1_ x2_ x3_ = some r) : zM l D tA b zy_MPainter_inside zb_MPainter_inside 9 (some .boolean) 1 26 0 0 [.ref (b + o), .int x0_, .int x1_, .long x2_, .long x3_] (zW tA b sh mm) n (zE (some (.int (r.1))) (zW tA b sh r.2) n) := by
  unfold F_MPainter_inside at h
  refine zM_of (own := "OrreryBoxModel$Painter") (plainFor_of_name (by decide)) rfl (Nat.le_of_ble_eq_true rfl) (fun p e s m below meth c F hr hin hH => ?_)
  refine zr_aload_n F zd_MPainter_inside_0 rfl ?_
  refine zr_iload_n F zd_MPainter_inside_1 rfl ?_
  refine zr_iload_n F zd_MPainter_inside_2 rfl ?_
  refine zr_lload_n F zd_MPainter_inside_3 rfl ?_
  refine zr_lload F zd_MPainter_inside_4 rfl ?_
  obtain ⟨le2, hs1, h⟩ := zoS_s h
  obtain ⟨p3, ep3, h⟩ := zoB_s h
  refine zr_callV1 F (k_MPainter_edge l D tA b sh _ ep3) zd_MPainter_inside_6 (zW_o hs1 (by decide)) rfl zs_MPainter_281 rfl zq_MPainter_edge rfl rfl ⟨(Nat.le_of_ble_eq_true rfl), (Nat.le_of_ble_eq_true rfl)⟩ (Nat.le_of_ble_eq_true rfl) ⟨(Nat.le_of_ble_eq_true rfl), (Nat.le_of_ble_eq_true rfl)⟩ ?_
  refine zr_lstore F zd_MPainter_inside_9 (by decide) ?_
  refine zr_pcn 11 rfl ?_
  refine zr_lload F zd_MPainter_inside_11 rfl ?_
  refine zr_lconstv (v := 0) F zd_MPainter_inside_13 (by decide) ?_
  refine zr_lcmp F zd_MPainter_inside_14 ?_
  refine zr_if_gt F 73 zd_MPainter_inside_15 (by decide) (fun hb4 => ?_) (fun hb4 => ?_)
  ·
    rw [if_pos hb4] at h
    refine zr_iconstv (v := 1) F zd_MPainter_inside_73 (by decide) ?_
    refine zr_goto F 78 zd_MPainter_inside_74 (by decide) ?_
    obtain rfl := Option.some.inj h
    exact zr_zret F hr rfl zd_MPainter_inside_78 (Nat.le_of_ble_eq_true rfl) (Nat.le_of_ble_eq_true rfl) ⟨rfl, rfl, rfl⟩
  ·
    rw [if_neg hb4] at h
    refine zr_lload F zd_MPainter_inside_18 rfl ?_
    refine zr_pcn 20 rfl ?_
    refine zr_lconstv (v := 0) F zd_MPainter_inside_20 (by decide) ?_
    refine zr_lcmp F zd_MPainter_inside_21 ?_
    refine zr_if_ne F 77 zd_MPainter_inside_22 (by decide) (fun hb5 => ?_) (fun hb5 => ?_)
    ·
      rw [if_neg hb5] at h
      refine zr_iconstv (v := 0) F zd_MPainter_inside_77 (by decide) ?_
      obtain rfl := Option.some.inj h
      exact zr_zret F hr rfl zd_MPainter_inside_78 (Nat.le_of_ble_eq_true rfl) (Nat.le_of_ble_eq_true rfl) ⟨rfl, rfl, rfl⟩
    ·
      rw [if_pos hb5] at h
      refine zr_aload_n F zd_MPainter_inside_25 rfl ?_
      obtain ⟨le7, hs6, h⟩ := zoS_s h
      obtain ⟨a8, ea8, h⟩ := zoB_s h
      refine zr_get F 13 28 zd_MPainter_inside_26 (zW_o hs6 (by decide)) rfl (by decide) zw_1608 rfl (by rfl) ?_
      refine zr_tor ea8 ?_
      refine zr_iload_n F zd_MPainter_inside_29 rfl ?_
      refine zr_pcn 30 rfl ?_
      obtain ⟨le10, hs9, h⟩ := zoS_s h
      obtain ⟨hi11, h⟩ := zoI_s h
      refine zr_lald F zd_MPainter_inside_30 (zW_a2 hs9) hi11 ?_
      refine zr_aload_n F zd_MPainter_inside_31 rfl ?_
      obtain ⟨le13, hs12, h⟩ := zoS_s h
      obtain ⟨a14, ea14, h⟩ := zoB_s h
      refine zr_get F 13 28 zd_MPainter_inside_32 (zW_o hs12 (by decide)) rfl (by decide) zw_1608 rfl (by rfl) ?_
      refine zr_tor ea14 ?_
      refine zr_iload_n F zd_MPainter_inside_35 rfl ?_
      obtain ⟨le16, hs15, h⟩ := zoS_s h
      obtain ⟨hi17, h⟩ := zoI_s h
      refine zr_lald F zd_MPainter_inside_36 (zW_a2 hs15) hi17 ?_
      refine zr_lcmp F zd_MPainter_inside_37 ?_
      refine zr_if_lt F 73 zd_MPainter_inside_38 (by decide) (fun hb18 => ?_) (fun hb18 => ?_)
      ·
        rw [if_pos hb18] at h
        refine zr_iconstv (v := 1) F zd_MPainter_inside_73 (by decide) ?_
        refine zr_pcn 74 rfl ?_
        refine zr_goto F 78 zd_MPainter_inside_74 (by decide) ?_
        obtain rfl := Option.some.inj h
        exact zr_zret F hr rfl zd_MPainter_inside_78 (Nat.le_of_ble_eq_true rfl) (Nat.le_of_ble_eq_true rfl) ⟨rfl, rfl, rfl⟩
      ·
        rw [if_neg hb18] at h
        refine zr_aload_n F zd_MPainter_inside_41 rfl ?_
        obtain ⟨le20, hs19, h⟩ := zoS_s h
        obtain ⟨a21, ea21, h⟩ := zoB_s h
        refine zr_get F 13 28 zd_MPainter_inside_42 (zW_o hs19 (by decide)) rfl (by decide) zw_1608 rfl (by rfl) ?_
        refine zr_tor ea21 ?_
        refine zr_iload_n F zd_MPainter_inside_45 rfl ?_
        obtain ⟨le23, hs22, h⟩ := zoS_s h
        obtain ⟨hi24, h⟩ := zoI_s h
        refine zr_lald F zd_MPainter_inside_46 (zW_a2 hs22) hi24 ?_
        refine zr_aload_n F zd_MPainter_inside_47 rfl ?_
        obtain ⟨le26, hs25, h⟩ := zoS_s h
        obtain ⟨a27, ea27, h⟩ := zoB_s h
        refine zr_get F 13 28 zd_MPainter_inside_48 (zW_o hs25 (by decide)) rfl (by decide) zw_1608 rfl (by rfl) ?_
        refine zr_tor ea27 ?_
        refine zr_pcn 51 rfl ?_
        refine zr_iload_n F zd_MPainter_inside_51 rfl ?_
        obtain ⟨le29, hs28, h⟩ := zoS_s h
        obtain ⟨hi30, h⟩ := zoI_s h
        refine zr_lald F zd_MPainter_inside_52 (zW_a2 hs28) hi30 ?_
        refine zr_lcmp F zd_MPainter_inside_53 ?_
        refine zr_if_ne F 77 zd_MPainter_inside_54 (by decide) (fun hb31 => ?_) (fun hb31 => ?_)
        ·
          rw [if_neg hb31] at h
          refine zr_iconstv (v := 0) F zd_MPainter_inside_77 (by decide) ?_
          obtain rfl := Option.some.inj h
          exact zr_zret F hr rfl zd_MPainter_inside_78 (Nat.le_of_ble_eq_true rfl) (Nat.le_of_ble_eq_true rfl) ⟨rfl, rfl, rfl⟩
        ·
          rw [if_pos hb31] at h
          refine zr_aload_n F zd_MPainter_inside_57 rfl ?_
          obtain ⟨le33, hs32, h⟩ := zoS_s h
          obtain ⟨a34, ea34, h⟩ := zoB_s h
          refine zr_get F 13 27 zd_MPainter_inside_58 (zW_o hs32 (by decide)) rfl (by decide) zw_1607 rfl (by rfl) ?_
          refine zr_tor ea34 ?_
          refine zr_pcn 61 rfl ?_
          refine zr_iload_n F zd_MPainter_inside_61 rfl ?_
          obtain ⟨le36, hs35, h⟩ := zoS_s h
          obtain ⟨hi37, h⟩ := zoI_s h
          refine zr_lald F zd_MPainter_inside_62 (zW_a2 hs35) hi37 ?_
          refine zr_aload_n F zd_MPainter_inside_63 rfl ?_
          obtain ⟨le39, hs38, h⟩ := zoS_s h
          obtain ⟨a40, ea40, h⟩ := zoB_s h
          refine zr_get F 13 27 zd_MPainter_inside_64 (zW_o hs38 (by decide)) rfl (by decide) zw_1607 rfl (by rfl) ?_
          refine zr_tor ea40 ?_
          refine zr_iload_n F zd_MPainter_inside_67 rfl ?_
          obtain ⟨le42, hs41, h⟩ := zoS_s h
          obtain ⟨hi43, h⟩ := zoI_s h
          refine zr_lald F zd_MPainter_inside_68 (zW_a2 hs41) hi43 ?_
          refine zr_lcmp F zd_MPainter_inside_69 ?_
          refine zr_if_le F 77 zd_MPainter_inside_70 (by decide) (fun hb44 => ?_) (fun hb44 => ?_)
          ·
            rw [if_pos hb44] at h
            refine zr_pcn 77 rfl ?_
            refine zr_iconstv (v := 0) F zd_MPainter_inside_77 (by decide) ?_
            obtain rfl := Option.some.inj h
            exact zr_zret F hr rfl zd_MPainter_inside_78 (Nat.le_of_ble_eq_true rfl) (Nat.le_of_ble_eq_true rfl) ⟨rfl, rfl, rfl⟩
          ·
            rw [if_neg hb44] at h
            refine zr_iconstv (v := 1) F zd_MPainter_inside_73 (by decide) ?_
            refine zr_goto F 78 zd_MPainter_inside_74 (by decide) ?_
            obtain rfl := Option.some.inj h
            exact zr_zret F hr rfl zd_MPainter_inside_78 (Nat.le_of_ble_eq_true rfl) (Nat.le_of_ble_eq_true rfl) ⟨rfl, rfl, rfl⟩
abbrev zb_MPainter_level : ByteArray := prog_16_method_30_code
def zy_MPainter_level : MethodName := ⟨"OrreryBoxModel$Painter", "level", "(IIIJ)I"⟩
theorem zc_MPainter_level : Cond.code zy_MPainter_level zb_MPainter_level 20 (some .int) ∈ gw := gw_t 2137 (by decide +kernel) rfl
theorem zq_MPainter_level : zy_MPainter_level.cls ≠ "java/lang/invoke/MethodHandle" ∧ zy_MPainter_level.cls ≠ "java/lang/invoke/VarHandle" ∧ (parseMethodDescriptor zy_MPainter_level.desc).map (fun d => d.parameters.length) = some 4 := by decide +kernel
theorem zd_MPainter_level_0 : decode zb_MPainter_level 0 = .ok (.aload_n 0, 1) := by decide +kernel
theorem zd_MPainter_level_1 : decode zb_MPainter_level 1 = .ok (.getfield 40, 3) := by decide +kernel
theorem zd_MPainter_level_4 : decode zb_MPainter_level 4 = .ok (.bipush 6, 2) := by decide +kernel
theorem zd_MPainter_level_6 : decode zb_MPainter_level 6 = .ok (.iload_n 2, 1) := by decide +kernel
theorem zd_MPainter_level_7 : decode zb_MPainter_level 7 = .ok (.imul, 1) := by decide +kernel
theorem zd_MPainter_level_8 : decode zb_MPainter_level 8 = .ok (.iconst 3, 1) := by decide +kernel
theorem zd_MPainter_level_9 : decode zb_MPainter_level 9 = .ok (.iadd, 1) := by decide +kernel
theorem zd_MPainter_level_10 : decode zb_MPainter_level 10 = .ok (.laload, 1) := by decide +kernel
theorem zd_MPainter_level_11 : decode zb_MPainter_level 11 = .ok (.aload_n 0, 1) := by decide +kernel
theorem zd_MPainter_level_12 : decode zb_MPainter_level 12 = .ok (.getfield 40, 3) := by decide +kernel
theorem zd_MPainter_level_15 : decode zb_MPainter_level 15 = .ok (.iconst 3, 1) := by decide +kernel
theorem zd_MPainter_level_16 : decode zb_MPainter_level 16 = .ok (.laload, 1) := by decide +kernel
theorem zd_MPainter_level_17 : decode zb_MPainter_level 17 = .ok (.lsub, 1) := by decide +kernel
theorem zd_MPainter_level_18 : decode zb_MPainter_level 18 = .ok (.lstore 6, 2) := by decide +kernel
theorem zd_MPainter_level_20 : decode zb_MPainter_level 20 = .ok (.aload_n 0, 1) := by decide +kernel
theorem zd_MPainter_level_21 : decode zb_MPainter_level 21 = .ok (.getfield 40, 3) := by decide +kernel
theorem zd_MPainter_level_24 : decode zb_MPainter_level 24 = .ok (.bipush 6, 2) := by decide +kernel
theorem zd_MPainter_level_26 : decode zb_MPainter_level 26 = .ok (.iload_n 3, 1) := by decide +kernel
theorem zd_MPainter_level_27 : decode zb_MPainter_level 27 = .ok (.imul, 1) := by decide +kernel
theorem zd_MPainter_level_28 : decode zb_MPainter_level 28 = .ok (.iconst 4, 1) := by decide +kernel
theorem zd_MPainter_level_29 : decode zb_MPainter_level 29 = .ok (.iadd, 1) := by decide +kernel
theorem zd_MPainter_level_30 : decode zb_MPainter_level 30 = .ok (.laload, 1) := by decide +kernel
theorem zd_MPainter_level_31 : decode zb_MPainter_level 31 = .ok (.aload_n 0, 1) := by decide +kernel
theorem zd_MPainter_level_32 : decode zb_MPainter_level 32 = .ok (.getfield 40, 3) := by decide +kernel
theorem zd_MPainter_level_35 : decode zb_MPainter_level 35 = .ok (.iconst 4, 1) := by decide +kernel
theorem zd_MPainter_level_36 : decode zb_MPainter_level 36 = .ok (.laload, 1) := by decide +kernel
theorem zd_MPainter_level_37 : decode zb_MPainter_level 37 = .ok (.lsub, 1) := by decide +kernel
theorem zd_MPainter_level_38 : decode zb_MPainter_level 38 = .ok (.lstore 8, 2) := by decide +kernel
theorem zd_MPainter_level_40 : decode zb_MPainter_level 40 = .ok (.aload_n 0, 1) := by decide +kernel
theorem zd_MPainter_level_41 : decode zb_MPainter_level 41 = .ok (.getfield 40, 3) := by decide +kernel
theorem zd_MPainter_level_44 : decode zb_MPainter_level 44 = .ok (.bipush 6, 2) := by decide +kernel
theorem zd_MPainter_level_46 : decode zb_MPainter_level 46 = .ok (.iload_n 3, 1) := by decide +kernel
theorem zd_MPainter_level_47 : decode zb_MPainter_level 47 = .ok (.imul, 1) := by decide +kernel
theorem zd_MPainter_level_48 : decode zb_MPainter_level 48 = .ok (.iconst 3, 1) := by decide +kernel
theorem zd_MPainter_level_49 : decode zb_MPainter_level 49 = .ok (.iadd, 1) := by decide +kernel
theorem zd_MPainter_level_50 : decode zb_MPainter_level 50 = .ok (.laload, 1) := by decide +kernel
theorem zd_MPainter_level_51 : decode zb_MPainter_level 51 = .ok (.aload_n 0, 1) := by decide +kernel
theorem zd_MPainter_level_52 : decode zb_MPainter_level 52 = .ok (.getfield 40, 3) := by decide +kernel
theorem zd_MPainter_level_55 : decode zb_MPainter_level 55 = .ok (.iconst 3, 1) := by decide +kernel
theorem zd_MPainter_level_56 : decode zb_MPainter_level 56 = .ok (.laload, 1) := by decide +kernel
theorem zd_MPainter_level_57 : decode zb_MPainter_level 57 = .ok (.lsub, 1) := by decide +kernel
theorem zd_MPainter_level_58 : decode zb_MPainter_level 58 = .ok (.lstore 10, 2) := by decide +kernel
theorem zd_MPainter_level_60 : decode zb_MPainter_level 60 = .ok (.aload_n 0, 1) := by decide +kernel
theorem zd_MPainter_level_61 : decode zb_MPainter_level 61 = .ok (.getfield 40, 3) := by decide +kernel
theorem zd_MPainter_level_64 : decode zb_MPainter_level 64 = .ok (.bipush 6, 2) := by decide +kernel
theorem zd_MPainter_level_66 : decode zb_MPainter_level 66 = .ok (.iload_n 2, 1) := by decide +kernel
theorem zd_MPainter_level_67 : decode zb_MPainter_level 67 = .ok (.imul, 1) := by decide +kernel
theorem zd_MPainter_level_68 : decode zb_MPainter_level 68 = .ok (.iconst 4, 1) := by decide +kernel
theorem zd_MPainter_level_69 : decode zb_MPainter_level 69 = .ok (.iadd, 1) := by decide +kernel
theorem zd_MPainter_level_70 : decode zb_MPainter_level 70 = .ok (.laload, 1) := by decide +kernel
theorem zd_MPainter_level_71 : decode zb_MPainter_level 71 = .ok (.aload_n 0, 1) := by decide +kernel
theorem zd_MPainter_level_72 : decode zb_MPainter_level 72 = .ok (.getfield 40, 3) := by decide +kernel
theorem zd_MPainter_level_75 : decode zb_MPainter_level 75 = .ok (.iconst 4, 1) := by decide +kernel
theorem zd_MPainter_level_76 : decode zb_MPainter_level 76 = .ok (.laload, 1) := by decide +kernel
theorem zd_MPainter_level_77 : decode zb_MPainter_level 77 = .ok (.lsub, 1) := by decide +kernel
theorem zd_MPainter_level_78 : decode zb_MPainter_level 78 = .ok (.lstore 12, 2) := by decide +kernel
theorem zd_MPainter_level_80 : decode zb_MPainter_level 80 = .ok (.lload 6, 2) := by decide +kernel
theorem zd_MPainter_level_82 : decode zb_MPainter_level 82 = .ok (.lload 8, 2) := by decide +kernel
theorem zd_MPainter_level_84 : decode zb_MPainter_level 84 = .ok (.lmul, 1) := by decide +kernel
theorem zd_MPainter_level_85 : decode zb_MPainter_level 85 = .ok (.lload 10, 2) := by decide +kernel
theorem zd_MPainter_level_87 : decode zb_MPainter_level 87 = .ok (.lload 12, 2) := by decide +kernel
theorem zd_MPainter_level_89 : decode zb_MPainter_level 89 = .ok (.lmul, 1) := by decide +kernel
theorem zd_MPainter_level_90 : decode zb_MPainter_level 90 = .ok (.lsub, 1) := by decide +kernel
theorem zd_MPainter_level_91 : decode zb_MPainter_level 91 = .ok (.lstore 14, 2) := by decide +kernel
theorem zd_MPainter_level_93 : decode zb_MPainter_level 93 = .ok (.lload 14, 2) := by decide +kernel
theorem zd_MPainter_level_95 : decode zb_MPainter_level 95 = .ok (.lconst 0, 1) := by decide +kernel
theorem zd_MPainter_level_96 : decode zb_MPainter_level 96 = .ok (.lcmp, 1) := by decide +kernel
theorem zd_MPainter_level_97 : decode zb_MPainter_level 97 = .ok (.ifCond .ge 9, 3) := by decide +kernel
theorem zd_MPainter_level_100 : decode zb_MPainter_level 100 = .ok (.lload 14, 2) := by decide +kernel
theorem zd_MPainter_level_102 : decode zb_MPainter_level 102 = .ok (.lneg, 1) := by decide +kernel
theorem zd_MPainter_level_103 : decode zb_MPainter_level 103 = .ok (.goto 5, 3) := by decide +kernel
theorem zd_MPainter_level_106 : decode zb_MPainter_level 106 = .ok (.lload 14, 2) := by decide +kernel
theorem zd_MPainter_level_108 : decode zb_MPainter_level 108 = .ok (.aload_n 0, 1) := by decide +kernel
theorem zd_MPainter_level_109 : decode zb_MPainter_level 109 = .ok (.getfield 129, 3) := by decide +kernel
theorem zd_MPainter_level_112 : decode zb_MPainter_level 112 = .ok (.getfield 308, 3) := by decide +kernel
theorem zd_MPainter_level_115 : decode zb_MPainter_level 115 = .ok (.iload_n 1, 1) := by decide +kernel
theorem zd_MPainter_level_116 : decode zb_MPainter_level 116 = .ok (.iaload, 1) := by decide +kernel
theorem zd_MPainter_level_117 : decode zb_MPainter_level 117 = .ok (.i2l, 1) := by decide +kernel
theorem zd_MPainter_level_118 : decode zb_MPainter_level 118 = .ok (.lmul, 1) := by decide +kernel
theorem zd_MPainter_level_119 : decode zb_MPainter_level 119 = .ok (.aload_n 0, 1) := by decide +kernel
theorem zd_MPainter_level_120 : decode zb_MPainter_level 120 = .ok (.getfield 129, 3) := by decide +kernel
theorem zd_MPainter_level_123 : decode zb_MPainter_level 123 = .ok (.getfield 308, 3) := by decide +kernel
theorem zd_MPainter_level_126 : decode zb_MPainter_level 126 = .ok (.iload_n 1, 1) := by decide +kernel
theorem zd_MPainter_level_127 : decode zb_MPainter_level 127 = .ok (.iaload, 1) := by decide +kernel
theorem zd_MPainter_level_128 : decode zb_MPainter_level 128 = .ok (.i2l, 1) := by decide +kernel
theorem zd_MPainter_level_129 : decode zb_MPainter_level 129 = .ok (.lmul, 1) := by decide +kernel
theorem zd_MPainter_level_130 : decode zb_MPainter_level 130 = .ok (.lstore 16, 2) := by decide +kernel
theorem zd_MPainter_level_132 : decode zb_MPainter_level 132 = .ok (.iconst 0, 1) := by decide +kernel
theorem zd_MPainter_level_133 : decode zb_MPainter_level 133 = .ok (.istore 18, 2) := by decide +kernel
theorem zd_MPainter_level_135 : decode zb_MPainter_level 135 = .ok (.aload_n 0, 1) := by decide +kernel
theorem zd_MPainter_level_136 : decode zb_MPainter_level 136 = .ok (.getfield 129, 3) := by decide +kernel
theorem zd_MPainter_level_139 : decode zb_MPainter_level 139 = .ok (.getfield 308, 3) := by decide +kernel
theorem zd_MPainter_level_142 : decode zb_MPainter_level 142 = .ok (.iload_n 1, 1) := by decide +kernel
theorem zd_MPainter_level_143 : decode zb_MPainter_level 143 = .ok (.iaload, 1) := by decide +kernel
theorem zd_MPainter_level_144 : decode zb_MPainter_level 144 = .ok (.istore 19, 2) := by decide +kernel
theorem zd_MPainter_level_146 : decode zb_MPainter_level 146 = .ok (.iload 19, 2) := by decide +kernel
theorem zd_MPainter_level_148 : decode zb_MPainter_level 148 = .ok (.iconst 1, 1) := by decide +kernel
theorem zd_MPainter_level_149 : decode zb_MPainter_level 149 = .ok (.if_icmp .le 32, 3) := by decide +kernel
theorem zd_MPainter_level_152 : decode zb_MPainter_level 152 = .ok (.lload 16, 2) := by decide +kernel
theorem zd_MPainter_level_154 : decode zb_MPainter_level 154 = .ok (.lload 4, 2) := by decide +kernel
theorem zd_MPainter_level_156 : decode zb_MPainter_level 156 = .ok (.ldc2_w 84, 3) := by decide +kernel
theorem zd_MPainter_level_159 : decode zb_MPainter_level 159 = .ok (.lmul, 1) := by decide +kernel
theorem zd_MPainter_level_160 : decode zb_MPainter_level 160 = .ok (.iconst 2, 1) := by decide +kernel
theorem zd_MPainter_level_161 : decode zb_MPainter_level 161 = .ok (.iload 18, 2) := by decide +kernel
theorem zd_MPainter_level_163 : decode zb_MPainter_level 163 = .ok (.imul, 1) := by decide +kernel
theorem zd_MPainter_level_164 : decode zb_MPainter_level 164 = .ok (.lshl, 1) := by decide +kernel
theorem zd_MPainter_level_165 : decode zb_MPainter_level 165 = .ok (.lcmp, 1) := by decide +kernel
theorem zd_MPainter_level_166 : decode zb_MPainter_level 166 = .ok (.ifCond .le 15, 3) := by decide +kernel
theorem zd_MPainter_level_169 : decode zb_MPainter_level 169 = .ok (.iinc 18 1, 3) := by decide +kernel
theorem zd_MPainter_level_172 : decode zb_MPainter_level 172 = .ok (.iload 19, 2) := by decide +kernel
theorem zd_MPainter_level_174 : decode zb_MPainter_level 174 = .ok (.iconst 2, 1) := by decide +kernel
theorem zd_MPainter_level_175 : decode zb_MPainter_level 175 = .ok (.idiv, 1) := by decide +kernel
theorem zd_MPainter_level_176 : decode zb_MPainter_level 176 = .ok (.istore 19, 2) := by decide +kernel
theorem zd_MPainter_level_178 : decode zb_MPainter_level 178 = .ok (.goto (-32), 3) := by decide +kernel
theorem zd_MPainter_level_181 : decode zb_MPainter_level 181 = .ok (.iload 18, 2) := by decide +kernel
theorem zd_MPainter_level_183 : decode zb_MPainter_level 183 = .ok (.ireturn, 1) := by decide +kernel
theorem zw_1333 : (Jvm.Cond.fieldLink "OrreryBoxModel$Painter" (308 : Nat) "OrreryBoxModel$Scene" "side" "[I") ∈ gw := gw_t 1333 (by decide +kernel) rfl
def L_MPainter_level_146 (sh : zSh) (fuel : Nat) (v4 : Int64) (v16 : Int64) (v18 : Int32) (v19 : Int32) (mm : zMem) : Option (Int64 × Int64 × Int32 × Int32 × zMem) := match fuel with
  | 0 => none
  | fu + 1 => (if v19 ≤ 1 then some (v4, v16, v18, v19, mm) else (if (lg_cmp v16 ((v4 * 16777216) <<< (((2 * v18) : Int32).toInt64 &&& 63))) ≤ 0 then some (v4, v16, v18, v19, mm) else zoL (v19 / 2) (fun x90 => L_MPainter_level_146 sh fu v4 v16 (v18 + 1) x90 mm)))
set_option maxHeartbeats 4000000 in
set_option maxRecDepth 100000 in
theorem lp_MPainter_level_146 {p : Program} {l : Launch} {e : Env} {s : State} {m : MethodId} {args : Array Value} {below : List Frame} {meth : Method} {c : Code} {D : va_G} {tA : Nat → ClassId} {b n : Nat} {post : Option Value → zV → Nat → Prop} {sh : zSh} (F : zF p s m args meth c zb_MPainter_level 20 "OrreryBoxModel$Painter" D tA b) : ∀ (fuel : Nat) (v4 : Int64) (v16 : Int64) (v18 : Int32) (v19 : Int32) (mm : zMem) (r : Int64 × Int64 × Int32 × Int32 × zMem), L_MPainter_level_146 sh fuel v4 v16 v18 v19 mm = some r → (Z p l e { frames := 0, cells := 0, slots := 0, locals := 0 } s m args below meth c D b 20 (MQ below (zQ D b post) args s 0 0 (fun q => b ≤ q)) (zW tA b sh r.2.2.2.2) n 0 0 181 [(4, .long (r.1)), (16, .long (r.2.1)), (18, .int (r.2.2.1)), (19, .int (r.2.2.2.1))] []) → Z p l e { frames := 0, cells := 0, slots := 0, locals := 0 } s m args below meth c D b 20 (MQ below (zQ D b post) args s 0 0 (fun q => b ≤ q)) (zW tA b sh mm) n 0 0 146 [(4, .long v4), (16, .long v16), (18, .int v18), (19, .int v19)] [] := by
  intro fuel
  induction fuel with
  | zero =>
    intro v4 v16 v18 v19 mm r h
    cases h
  | succ fu ih =>
    intro v4 v16 v18 v19 mm r h hx0
    rw [L_MPainter_level_146] at h
    refine zr_iload F zd_MPainter_level_146 rfl ?_
    refine zr_iconstv (v := 1) F zd_MPainter_level_148 (by decide) ?_
    refine zr_icmp_le F 181 zd_MPainter_level_149 (by decide) (fun hb88 => ?_) (fun hb88 => ?_)
    ·
      rw [if_pos hb88] at h
      obtain rfl := Option.some.inj h
      refine zr_loc (L' := [(4, .long v4), (16, .long v16), (18, .int v18), (19, .int v19)]) ⟨rfl, rfl, rfl, rfl, trivial⟩ ?_
      exact hx0 
    ·
      rw [if_neg hb88] at h
      refine zr_pcn 152 rfl ?_
      refine zr_lload F zd_MPainter_level_152 rfl ?_
      refine zr_lload F zd_MPainter_level_154 rfl ?_
      refine zr_ldc2 F zd_MPainter_level_156 zw_2038 ?_
      refine zr_lmul F zd_MPainter_level_159 ?_
      refine zr_iconstv (v := 2) F zd_MPainter_level_160 (by decide) ?_
      refine zr_iload F zd_MPainter_level_161 rfl ?_
      refine zr_imul F zd_MPainter_level_163 ?_
      refine zr_lshl F zd_MPainter_level_164 ?_
      refine zr_pcn 165 rfl ?_
      refine zr_lcmp F zd_MPainter_level_165 ?_
      refine zr_if_le F 181 zd_MPainter_level_166 (by decide) (fun hb89 => ?_) (fun hb89 => ?_)
      ·
        rw [if_pos hb89] at h
        obtain rfl := Option.some.inj h
        refine zr_loc (L' := [(4, .long v4), (16, .long v16), (18, .int v18), (19, .int v19)]) ⟨rfl, rfl, rfl, rfl, trivial⟩ ?_
        exact hx0 
      ·
        rw [if_neg hb89] at h
        refine zr_iinc (v := (v18 + 1)) F zd_MPainter_level_169 rfl rfl (by decide) ?_
        refine zr_iload F zd_MPainter_level_172 rfl ?_
        refine zr_iconstv (v := 2) F zd_MPainter_level_174 (by decide) ?_
        refine zr_idiv F zd_MPainter_level_175 (by decide) ?_
        obtain ⟨x90, ex90, h⟩ := zoL_s h
        rw [← ex90]
        refine zr_istore F zd_MPainter_level_176 (by decide) ?_
        refine zr_goto F 146 zd_MPainter_level_178 (by decide) ?_
        refine zr_loc (L' := [(4, .long v4), (16, .long v16), (18, .int (v18 + 1)), (19, .int x90)]) ⟨rfl, rfl, rfl, rfl, trivial⟩ ?_
        exact ih _ _ _ _ _ _ h hx0
def F_MPainter_level (sh : zSh) (mm : zMem) (o : Nat) (x0_ : Int32) (x1_ : Int32) (x2_ : Int32) (x3_ : Int64) : Option (Int32 × zMem) := zoS (sh o) 13 (fun le2 => Option.bind (mm.2.2 o 23) (fun a3 => zoL ((6 * x1_) + 3) (fun i4 => zoS (sh a3) 102 (fun le6 => if (i4 : Int32) < 0 ∨ le6 ≤ (i4 : Int32).toNatClampNeg then none else zoS (sh o) 13 (fun le9 => Option.bind (mm.2.2 o 23) (fun a10 => zoS (sh a10) 102 (fun le12 => if (3 : Int32) < 0 ∨ le12 ≤ (3 : Int32).toNatClampNeg then none else zoL ((mm.2.1 a3 (i4 : Int32).toNatClampNeg) - (mm.2.1 a10 (3 : Int32).toNatClampNeg)) (fun x14 => zoS (sh o) 13 (fun le16 => Option.bind (mm.2.2 o 23) (fun a17 => zoL ((6 * x2_) + 4) (fun i18 => zoS (sh a17) 102 (fun le20 => if (i18 : Int32) < 0 ∨ le20 ≤ (i18 : Int32).toNatClampNeg then none else zoS (sh o) 13 (fun le23 => Option.bind (mm.2.2 o 23) (fun a24 => zoS (sh a24) 102 (fun le26 => if (4 : Int32) < 0 ∨ le26 ≤ (4 : Int32).toNatClampNeg then none else zoL ((mm.2.1 a17 (i18 : Int32).toNatClampNeg) - (mm.2.1 a24 (4 : Int32).toNatClampNeg)) (fun x28 => zoS (sh o) 13 (fun le30 => Option.bind (mm.2.2 o 23) (fun a31 => zoL ((6 * x2_) + 3) (fun i32 => zoS (sh a31) 102 (fun le34 => if (i32 : Int32) < 0 ∨ le34 ≤ (i32 : Int32).toNatClampNeg then none else zoS (sh o) 13 (fun le37 => Option.bind (mm.2.2 o 23) (fun a38 => zoS (sh a38) 102 (fun le40 => if (3 : Int32) < 0 ∨ le40 ≤ (3 : Int32).toNatClampNeg then none else zoL ((mm.2.1 a31 (i32 : Int32).toNatClampNeg) - (mm.2.1 a38 (3 : Int32).toNatClampNeg)) (fun x42 => zoS (sh o) 13 (fun le44 => Option.bind (mm.2.2 o 23) (fun a45 => zoL ((6 * x1_) + 4) (fun i46 => zoS (sh a45) 102 (fun le48 => if (i46 : Int32) < 0 ∨ le48 ≤ (i46 : Int32).toNatClampNeg then none else zoS (sh o) 13 (fun le51 => Option.bind (mm.2.2 o 23) (fun a52 => zoS (sh a52) 102 (fun le54 => if (4 : Int32) < 0 ∨ le54 ≤ (4 : Int32).toNatClampNeg then none else zoL ((mm.2.1 a45 (i46 : Int32).toNatClampNeg) - (mm.2.1 a52 (4 : Int32).toNatClampNeg)) (fun x56 => zoL ((x14 * x28) - (x42 * x56)) (fun x57 => (if 0 ≤ (lg_cmp x57 0) then zoS (sh o) 13 (fun le60 => Option.bind (mm.2.2 o 5) (fun a61 => zoS (sh a61) 15 (fun le63 => Option.bind (mm.2.2 a61 5) (fun a64 => zoS (sh a64) 100 (fun le66 => if (x0_ : Int32) < 0 ∨ le66 ≤ (x0_ : Int32).toNatClampNeg then none else zoS (sh o) 13 (fun le69 => Option.bind (mm.2.2 o 5) (fun a70 => zoS (sh a70) 15 (fun le72 => Option.bind (mm.2.2 a70 5) (fun a73 => zoS (sh a73) 100 (fun le75 => if (x0_ : Int32) < 0 ∨ le75 ≤ (x0_ : Int32).toNatClampNeg then none else zoL ((x57 * (((mm.1 a64 (x0_ : Int32).toNatClampNeg) : Int32).toInt64)) * (((mm.1 a73 (x0_ : Int32).toNatClampNeg) : Int32).toInt64)) (fun x77 => zoS (sh o) 13 (fun le79 => Option.bind (mm.2.2 o 5) (fun a80 => zoS (sh a80) 15 (fun le82 => Option.bind (mm.2.2 a80 5) (fun a83 => zoS (sh a83) 100 (fun le85 => if (x0_ : Int32) < 0 ∨ le85 ≤ (x0_ : Int32).toNatClampNeg then none else zoL (mm.1 a83 (x0_ : Int32).toNatClampNeg) (fun x87 => Option.bind (L_MPainter_level_146 sh zfuel x3_ x77 0 x87 mm) (fun q91 => some (q91.2.2.1, q91.2.2.2.2))))))))))))))))))) else zoS (sh o) 13 (fun le93 => Option.bind (mm.2.2 o 5) (fun a94 => zoS (sh a94) 15 (fun le96 => Option.bind (mm.2.2 a94 5) (fun a97 => zoS (sh a97) 100 (fun le99 => if (x0_ : Int32) < 0 ∨ le99 ≤ (x0_ : Int32).toNatClampNeg then none else zoS (sh o) 13 (fun le102 => Option.bind (mm.2.2 o 5) (fun a103 => zoS (sh a103) 15 (fun le105 => Option.bind (mm.2.2 a103 5) (fun a106 => zoS (sh a106) 100 (fun le108 => if (x0_ : Int32) < 0 ∨ le108 ≤ (x0_ : Int32).toNatClampNeg then none else zoL (((-x57) * (((mm.1 a97 (x0_ : Int32).toNatClampNeg) : Int32).toInt64)) * (((mm.1 a106 (x0_ : Int32).toNatClampNeg) : Int32).toInt64)) (fun x110 => zoS (sh o) 13 (fun le112 => Option.bind (mm.2.2 o 5) (fun a113 => zoS (sh a113) 15 (fun le115 => Option.bind (mm.2.2 a113 5) (fun a116 => zoS (sh a116) 100 (fun le118 => if (x0_ : Int32) < 0 ∨ le118 ≤ (x0_ : Int32).toNatClampNeg then none else zoL (mm.1 a116 (x0_ : Int32).toNatClampNeg) (fun x120 => Option.bind (L_MPainter_level_146 sh zfuel x3_ x110 0 x120 mm) (fun q121 => some (q121.2.2.1, q121.2.2.2.2)))))))))))))))))))))))))))))))))))))))))))))))))))))
set_option maxHeartbeats 4000000 in
set_option maxRecDepth 100000 in
theorem k_MPainter_level (l : Launch) (D : va_G) (tA : Nat → ClassId) (b : Nat) (sh : zSh) (n : Nat) {mm : zMem} {o : Nat} {x0_ : Int32} {x1_ : Int32} {x2_ : Int32} {x3_ : Int64} {r : (Int32 × zMem)} (h : F_MPainter_level sh mm o x0_ x1_ x2_ x3_ = some r) : zM l D tA b zy_MPainter_level zb_MPainter_level 20 (some .int) 0 0 0 0 [.ref (b + o), .int x0_, .int x1_, .int x2_, .long x3_] (zW tA b sh mm) n (zE (some (.int (r.1))) (zW tA b sh r.2) n) := by
  unfold F_MPainter_level at h
  refine zM_of (own := "OrreryBoxModel$Painter") (plainFor_of_name (by decide)) rfl (Nat.le_of_ble_eq_true rfl) (fun p e s m below meth c F hr hin hH => ?_)
  refine zr_aload_n F zd_MPainter_level_0 rfl ?_
  obtain ⟨le2, hs1, h⟩ := zoS_s h
  obtain ⟨a3, ea3, h⟩ := zoB_s h
  refine zr_get F 13 23 zd_MPainter_level_1 (zW_o hs1 (by decide)) rfl (by decide) zw_1603 rfl (by rfl) ?_
  refine zr_tor ea3 ?_
  refine zr_bipushv (v := 6) F zd_MPainter_level_4 (by decide) ?_
  refine zr_iload_n F zd_MPainter_level_6 rfl ?_
  refine zr_imul F zd_MPainter_level_7 ?_
  refine zr_iconstv (v := 3) F zd_MPainter_level_8 (by decide) ?_
  refine zr_iadd F zd_MPainter_level_9 ?_
  refine zr_pcn 10 rfl ?_
  obtain ⟨i4, ei4, h⟩ := zoL_s h
  rw [← ei4]
  obtain ⟨le6, hs5, h⟩ := zoS_s h
  obtain ⟨hi7, h⟩ := zoI_s h
  refine zr_lald F zd_MPainter_level_10 (zW_a2 hs5) hi7 ?_
  refine zr_aload_n F zd_MPainter_level_11 rfl ?_
  obtain ⟨le9, hs8, h⟩ := zoS_s h
  obtain ⟨a10, ea10, h⟩ := zoB_s h
  refine zr_get F 13 23 zd_MPainter_level_12 (zW_o hs8 (by decide)) rfl (by decide) zw_1603 rfl (by rfl) ?_
  refine zr_tor ea10 ?_
  refine zr_iconstv (v := 3) F zd_MPainter_level_15 (by decide) ?_
  obtain ⟨le12, hs11, h⟩ := zoS_s h
  obtain ⟨hi13, h⟩ := zoI_s h
  refine zr_lald F zd_MPainter_level_16 (zW_a2 hs11) hi13 ?_
  refine zr_lsub F zd_MPainter_level_17 ?_
  obtain ⟨x14, ex14, h⟩ := zoL_s h
  rw [← ex14]
  refine zr_lstore F zd_MPainter_level_18 (by decide) ?_
  refine zr_aload_n F zd_MPainter_level_20 rfl ?_
  refine zr_pcn 21 rfl ?_
  obtain ⟨le16, hs15, h⟩ := zoS_s h
  obtain ⟨a17, ea17, h⟩ := zoB_s h
  refine zr_get F 13 23 zd_MPainter_level_21 (zW_o hs15 (by decide)) rfl (by decide) zw_1603 rfl (by rfl) ?_
  refine zr_tor ea17 ?_
  refine zr_bipushv (v := 6) F zd_MPainter_level_24 (by decide) ?_
  refine zr_iload_n F zd_MPainter_level_26 rfl ?_
  refine zr_imul F zd_MPainter_level_27 ?_
  refine zr_iconstv (v := 4) F zd_MPainter_level_28 (by decide) ?_
  refine zr_iadd F zd_MPainter_level_29 ?_
  obtain ⟨i18, ei18, h⟩ := zoL_s h
  rw [← ei18]
  obtain ⟨le20, hs19, h⟩ := zoS_s h
  obtain ⟨hi21, h⟩ := zoI_s h
  refine zr_lald F zd_MPainter_level_30 (zW_a2 hs19) hi21 ?_
  refine zr_aload_n F zd_MPainter_level_31 rfl ?_
  refine zr_pcn 32 rfl ?_
  obtain ⟨le23, hs22, h⟩ := zoS_s h
  obtain ⟨a24, ea24, h⟩ := zoB_s h
  refine zr_get F 13 23 zd_MPainter_level_32 (zW_o hs22 (by decide)) rfl (by decide) zw_1603 rfl (by rfl) ?_
  refine zr_tor ea24 ?_
  refine zr_iconstv (v := 4) F zd_MPainter_level_35 (by decide) ?_
  obtain ⟨le26, hs25, h⟩ := zoS_s h
  obtain ⟨hi27, h⟩ := zoI_s h
  refine zr_lald F zd_MPainter_level_36 (zW_a2 hs25) hi27 ?_
  refine zr_lsub F zd_MPainter_level_37 ?_
  obtain ⟨x28, ex28, h⟩ := zoL_s h
  rw [← ex28]
  refine zr_lstore F zd_MPainter_level_38 (by decide) ?_
  refine zr_aload_n F zd_MPainter_level_40 rfl ?_
  obtain ⟨le30, hs29, h⟩ := zoS_s h
  obtain ⟨a31, ea31, h⟩ := zoB_s h
  refine zr_get F 13 23 zd_MPainter_level_41 (zW_o hs29 (by decide)) rfl (by decide) zw_1603 rfl (by rfl) ?_
  refine zr_tor ea31 ?_
  refine zr_bipushv (v := 6) F zd_MPainter_level_44 (by decide) ?_
  refine zr_pcn 46 rfl ?_
  refine zr_iload_n F zd_MPainter_level_46 rfl ?_
  refine zr_imul F zd_MPainter_level_47 ?_
  refine zr_iconstv (v := 3) F zd_MPainter_level_48 (by decide) ?_
  refine zr_iadd F zd_MPainter_level_49 ?_
  obtain ⟨i32, ei32, h⟩ := zoL_s h
  rw [← ei32]
  obtain ⟨le34, hs33, h⟩ := zoS_s h
  obtain ⟨hi35, h⟩ := zoI_s h
  refine zr_lald F zd_MPainter_level_50 (zW_a2 hs33) hi35 ?_
  refine zr_aload_n F zd_MPainter_level_51 rfl ?_
  obtain ⟨le37, hs36, h⟩ := zoS_s h
  obtain ⟨a38, ea38, h⟩ := zoB_s h
  refine zr_get F 13 23 zd_MPainter_level_52 (zW_o hs36 (by decide)) rfl (by decide) zw_1603 rfl (by rfl) ?_
  refine zr_tor ea38 ?_
  refine zr_iconstv (v := 3) F zd_MPainter_level_55 (by decide) ?_
  refine zr_pcn 56 rfl ?_
  obtain ⟨le40, hs39, h⟩ := zoS_s h
  obtain ⟨hi41, h⟩ := zoI_s h
  refine zr_lald F zd_MPainter_level_56 (zW_a2 hs39) hi41 ?_
  refine zr_lsub F zd_MPainter_level_57 ?_
  obtain ⟨x42, ex42, h⟩ := zoL_s h
  rw [← ex42]
  refine zr_lstore F zd_MPainter_level_58 (by decide) ?_
  refine zr_aload_n F zd_MPainter_level_60 rfl ?_
  obtain ⟨le44, hs43, h⟩ := zoS_s h
  obtain ⟨a45, ea45, h⟩ := zoB_s h
  refine zr_get F 13 23 zd_MPainter_level_61 (zW_o hs43 (by decide)) rfl (by decide) zw_1603 rfl (by rfl) ?_
  refine zr_tor ea45 ?_
  refine zr_bipushv (v := 6) F zd_MPainter_level_64 (by decide) ?_
  refine zr_iload_n F zd_MPainter_level_66 rfl ?_
  refine zr_imul F zd_MPainter_level_67 ?_
  refine zr_pcn 68 rfl ?_
  refine zr_iconstv (v := 4) F zd_MPainter_level_68 (by decide) ?_
  refine zr_iadd F zd_MPainter_level_69 ?_
  obtain ⟨i46, ei46, h⟩ := zoL_s h
  rw [← ei46]
  obtain ⟨le48, hs47, h⟩ := zoS_s h
  obtain ⟨hi49, h⟩ := zoI_s h
  refine zr_lald F zd_MPainter_level_70 (zW_a2 hs47) hi49 ?_
  refine zr_aload_n F zd_MPainter_level_71 rfl ?_
  obtain ⟨le51, hs50, h⟩ := zoS_s h
  obtain ⟨a52, ea52, h⟩ := zoB_s h
  refine zr_get F 13 23 zd_MPainter_level_72 (zW_o hs50 (by decide)) rfl (by decide) zw_1603 rfl (by rfl) ?_
  refine zr_tor ea52 ?_
  refine zr_iconstv (v := 4) F zd_MPainter_level_75 (by decide) ?_
  obtain ⟨le54, hs53, h⟩ := zoS_s h
  obtain ⟨hi55, h⟩ := zoI_s h
  refine zr_lald F zd_MPainter_level_76 (zW_a2 hs53) hi55 ?_
  refine zr_lsub F zd_MPainter_level_77 ?_
  refine zr_pcn 78 rfl ?_
  obtain ⟨x56, ex56, h⟩ := zoL_s h
  rw [← ex56]
  refine zr_lstore F zd_MPainter_level_78 (by decide) ?_
  refine zr_lload F zd_MPainter_level_80 rfl ?_
  refine zr_lload F zd_MPainter_level_82 rfl ?_
  refine zr_lmul F zd_MPainter_level_84 ?_
  refine zr_lload F zd_MPainter_level_85 rfl ?_
  refine zr_lload F zd_MPainter_level_87 rfl ?_
  refine zr_lmul F zd_MPainter_level_89 ?_
  refine zr_lsub F zd_MPainter_level_90 ?_
  refine zr_pcn 91 rfl ?_
  obtain ⟨x57, ex57, h⟩ := zoL_s h
  rw [← ex57]
  refine zr_lstore F zd_MPainter_level_91 (by decide) ?_
  refine zr_lload F zd_MPainter_level_93 rfl ?_
  refine zr_lconstv (v := 0) F zd_MPainter_level_95 (by decide) ?_
  refine zr_lcmp F zd_MPainter_level_96 ?_
  refine zr_if_ge F 106 zd_MPainter_level_97 (by decide) (fun hb58 => ?_) (fun hb58 => ?_)
  ·
    rw [if_pos hb58] at h
    refine zr_lload F zd_MPainter_level_106 rfl ?_
    refine zr_aload_n F zd_MPainter_level_108 rfl ?_
    obtain ⟨le60, hs59, h⟩ := zoS_s h
    obtain ⟨a61, ea61, h⟩ := zoB_s h
    refine zr_get F 13 5 zd_MPainter_level_109 (zW_o hs59 (by decide)) rfl (by decide) zw_1581 rfl (by rfl) ?_
    refine zr_tor ea61 ?_
    refine zr_pcn 112 rfl ?_
    obtain ⟨le63, hs62, h⟩ := zoS_s h
    obtain ⟨a64, ea64, h⟩ := zoB_s h
    refine zr_get F 15 5 zd_MPainter_level_112 (zW_o hs62 (by decide)) rfl (by decide) zw_1333 rfl (by rfl) ?_
    refine zr_tor ea64 ?_
    refine zr_iload_n F zd_MPainter_level_115 rfl ?_
    obtain ⟨le66, hs65, h⟩ := zoS_s h
    obtain ⟨hi67, h⟩ := zoI_s h
    refine zr_iald F zd_MPainter_level_116 (zW_a0 hs65) hi67 ?_
    refine zr_i2l F zd_MPainter_level_117 ?_
    refine zr_lmul F zd_MPainter_level_118 ?_
    refine zr_aload_n F zd_MPainter_level_119 rfl ?_
    obtain ⟨le69, hs68, h⟩ := zoS_s h
    obtain ⟨a70, ea70, h⟩ := zoB_s h
    refine zr_get F 13 5 zd_MPainter_level_120 (zW_o hs68 (by decide)) rfl (by decide) zw_1581 rfl (by rfl) ?_
    refine zr_tor ea70 ?_
    obtain ⟨le72, hs71, h⟩ := zoS_s h
    obtain ⟨a73, ea73, h⟩ := zoB_s h
    refine zr_get F 15 5 zd_MPainter_level_123 (zW_o hs71 (by decide)) rfl (by decide) zw_1333 rfl (by rfl) ?_
    refine zr_tor ea73 ?_
    refine zr_pcn 126 rfl ?_
    refine zr_iload_n F zd_MPainter_level_126 rfl ?_
    obtain ⟨le75, hs74, h⟩ := zoS_s h
    obtain ⟨hi76, h⟩ := zoI_s h
    refine zr_iald F zd_MPainter_level_127 (zW_a0 hs74) hi76 ?_
    refine zr_i2l F zd_MPainter_level_128 ?_
    refine zr_lmul F zd_MPainter_level_129 ?_
    obtain ⟨x77, ex77, h⟩ := zoL_s h
    rw [← ex77]
    refine zr_lstore F zd_MPainter_level_130 (by decide) ?_
    refine zr_iconstv (v := 0) F zd_MPainter_level_132 (by decide) ?_
    refine zr_istore F zd_MPainter_level_133 (by decide) ?_
    refine zr_aload_n F zd_MPainter_level_135 rfl ?_
    refine zr_pcn 136 rfl ?_
    obtain ⟨le79, hs78, h⟩ := zoS_s h
    obtain ⟨a80, ea80, h⟩ := zoB_s h
    refine zr_get F 13 5 zd_MPainter_level_136 (zW_o hs78 (by decide)) rfl (by decide) zw_1581 rfl (by rfl) ?_
    refine zr_tor ea80 ?_
    obtain ⟨le82, hs81, h⟩ := zoS_s h
    obtain ⟨a83, ea83, h⟩ := zoB_s h
    refine zr_get F 15 5 zd_MPainter_level_139 (zW_o hs81 (by decide)) rfl (by decide) zw_1333 rfl (by rfl) ?_
    refine zr_tor ea83 ?_
    refine zr_iload_n F zd_MPainter_level_142 rfl ?_
    obtain ⟨le85, hs84, h⟩ := zoS_s h
    obtain ⟨hi86, h⟩ := zoI_s h
    refine zr_iald F zd_MPainter_level_143 (zW_a0 hs84) hi86 ?_
    obtain ⟨x87, ex87, h⟩ := zoL_s h
    rw [← ex87]
    refine zr_istore F zd_MPainter_level_144 (by decide) ?_
    obtain ⟨q91, eq91, h⟩ := zoB_s h
    refine zr_loc (L' := [(4, .long x3_), (16, .long x77), (18, .int 0), (19, .int x87)]) ⟨rfl, rfl, rfl, rfl, trivial⟩ ?_
    refine lp_MPainter_level_146 F _ _ _ _ _ _ _ eq91 ?_
    ·
      refine zr_pcn 181 rfl ?_
      refine zr_iload F zd_MPainter_level_181 rfl ?_
      obtain rfl := Option.some.inj h
      exact zr_iret F hr zd_MPainter_level_183 (Nat.le_of_ble_eq_true rfl) (Nat.le_of_ble_eq_true rfl) ⟨rfl, rfl, rfl⟩
  ·
    rw [if_neg hb58] at h
    refine zr_lload F zd_MPainter_level_100 rfl ?_
    refine zr_lneg F zd_MPainter_level_102 ?_
    refine zr_goto F 108 zd_MPainter_level_103 (by decide) ?_
    refine zr_aload_n F zd_MPainter_level_108 rfl ?_
    obtain ⟨le93, hs92, h⟩ := zoS_s h
    obtain ⟨a94, ea94, h⟩ := zoB_s h
    refine zr_get F 13 5 zd_MPainter_level_109 (zW_o hs92 (by decide)) rfl (by decide) zw_1581 rfl (by rfl) ?_
    refine zr_tor ea94 ?_
    obtain ⟨le96, hs95, h⟩ := zoS_s h
    obtain ⟨a97, ea97, h⟩ := zoB_s h
    refine zr_get F 15 5 zd_MPainter_level_112 (zW_o hs95 (by decide)) rfl (by decide) zw_1333 rfl (by rfl) ?_
    refine zr_tor ea97 ?_
    refine zr_pcn 115 rfl ?_
    refine zr_iload_n F zd_MPainter_level_115 rfl ?_
    obtain ⟨le99, hs98, h⟩ := zoS_s h
    obtain ⟨hi100, h⟩ := zoI_s h
    refine zr_iald F zd_MPainter_level_116 (zW_a0 hs98) hi100 ?_
    refine zr_i2l F zd_MPainter_level_117 ?_
    refine zr_lmul F zd_MPainter_level_118 ?_
    refine zr_aload_n F zd_MPainter_level_119 rfl ?_
    obtain ⟨le102, hs101, h⟩ := zoS_s h
    obtain ⟨a103, ea103, h⟩ := zoB_s h
    refine zr_get F 13 5 zd_MPainter_level_120 (zW_o hs101 (by decide)) rfl (by decide) zw_1581 rfl (by rfl) ?_
    refine zr_tor ea103 ?_
    obtain ⟨le105, hs104, h⟩ := zoS_s h
    obtain ⟨a106, ea106, h⟩ := zoB_s h
    refine zr_get F 15 5 zd_MPainter_level_123 (zW_o hs104 (by decide)) rfl (by decide) zw_1333 rfl (by rfl) ?_
    refine zr_tor ea106 ?_
    refine zr_iload_n F zd_MPainter_level_126 rfl ?_
    refine zr_pcn 127 rfl ?_
    obtain ⟨le108, hs107, h⟩ := zoS_s h
    obtain ⟨hi109, h⟩ := zoI_s h
    refine zr_iald F zd_MPainter_level_127 (zW_a0 hs107) hi109 ?_
    refine zr_i2l F zd_MPainter_level_128 ?_
    refine zr_lmul F zd_MPainter_level_129 ?_
    obtain ⟨x110, ex110, h⟩ := zoL_s h
    rw [← ex110]
    refine zr_lstore F zd_MPainter_level_130 (by decide) ?_
    refine zr_iconstv (v := 0) F zd_MPainter_level_132 (by decide) ?_
    refine zr_istore F zd_MPainter_level_133 (by decide) ?_
    refine zr_aload_n F zd_MPainter_level_135 rfl ?_
    obtain ⟨le112, hs111, h⟩ := zoS_s h
    obtain ⟨a113, ea113, h⟩ := zoB_s h
    refine zr_get F 13 5 zd_MPainter_level_136 (zW_o hs111 (by decide)) rfl (by decide) zw_1581 rfl (by rfl) ?_
    refine zr_tor ea113 ?_
    refine zr_pcn 139 rfl ?_
    obtain ⟨le115, hs114, h⟩ := zoS_s h
    obtain ⟨a116, ea116, h⟩ := zoB_s h
    refine zr_get F 15 5 zd_MPainter_level_139 (zW_o hs114 (by decide)) rfl (by decide) zw_1333 rfl (by rfl) ?_
    refine zr_tor ea116 ?_
    refine zr_iload_n F zd_MPainter_level_142 rfl ?_
    obtain ⟨le118, hs117, h⟩ := zoS_s h
    obtain ⟨hi119, h⟩ := zoI_s h
    refine zr_iald F zd_MPainter_level_143 (zW_a0 hs117) hi119 ?_
    obtain ⟨x120, ex120, h⟩ := zoL_s h
    rw [← ex120]
    refine zr_istore F zd_MPainter_level_144 (by decide) ?_
    obtain ⟨q121, eq121, h⟩ := zoB_s h
    refine zr_loc (L' := [(4, .long x3_), (16, .long x110), (18, .int 0), (19, .int x120)]) ⟨rfl, rfl, rfl, rfl, trivial⟩ ?_
    refine lp_MPainter_level_146 F _ _ _ _ _ _ _ eq121 ?_
    ·
      refine zr_iload F zd_MPainter_level_181 rfl ?_
      obtain rfl := Option.some.inj h
      exact zr_iret F hr zd_MPainter_level_183 (Nat.le_of_ble_eq_true rfl) (Nat.le_of_ble_eq_true rfl) ⟨rfl, rfl, rfl⟩
abbrev zb_MPainter_wrapped : ByteArray := prog_16_method_31_code
def zy_MPainter_wrapped : MethodName := ⟨"OrreryBoxModel$Painter", "wrapped", "(JII)I"⟩
theorem zc_MPainter_wrapped : Cond.code zy_MPainter_wrapped zb_MPainter_wrapped 5 (some .int) ∈ gw := gw_t 2149 (by decide +kernel) rfl
theorem zq_MPainter_wrapped : zy_MPainter_wrapped.cls ≠ "java/lang/invoke/MethodHandle" ∧ zy_MPainter_wrapped.cls ≠ "java/lang/invoke/VarHandle" ∧ (parseMethodDescriptor zy_MPainter_wrapped.desc).map (fun d => d.parameters.length) = some 3 := by decide +kernel
theorem zd_MPainter_wrapped_0 : decode zb_MPainter_wrapped 0 = .ok (.iload_n 3, 1) := by decide +kernel
theorem zd_MPainter_wrapped_1 : decode zb_MPainter_wrapped 1 = .ok (.ifCond .ne 11, 3) := by decide +kernel
theorem zd_MPainter_wrapped_4 : decode zb_MPainter_wrapped 4 = .ok (.lload_n 0, 1) := by decide +kernel
theorem zd_MPainter_wrapped_5 : decode zb_MPainter_wrapped 5 = .ok (.iload_n 2, 1) := by decide +kernel
theorem zd_MPainter_wrapped_6 : decode zb_MPainter_wrapped 6 = .ok (.i2l, 1) := by decide +kernel
theorem zd_MPainter_wrapped_7 : decode zb_MPainter_wrapped 7 = .ok (.invokestatic 88, 3) := by decide +kernel
theorem zd_MPainter_wrapped_10 : decode zb_MPainter_wrapped 10 = .ok (.l2i, 1) := by decide +kernel
theorem zd_MPainter_wrapped_11 : decode zb_MPainter_wrapped 11 = .ok (.ireturn, 1) := by decide +kernel
theorem zd_MPainter_wrapped_12 : decode zb_MPainter_wrapped 12 = .ok (.iload_n 3, 1) := by decide +kernel
theorem zd_MPainter_wrapped_13 : decode zb_MPainter_wrapped 13 = .ok (.iconst 1, 1) := by decide +kernel
theorem zd_MPainter_wrapped_14 : decode zb_MPainter_wrapped 14 = .ok (.if_icmp .ne 29, 3) := by decide +kernel
theorem zd_MPainter_wrapped_17 : decode zb_MPainter_wrapped 17 = .ok (.lload_n 0, 1) := by decide +kernel
theorem zd_MPainter_wrapped_18 : decode zb_MPainter_wrapped 18 = .ok (.lconst 0, 1) := by decide +kernel
theorem zd_MPainter_wrapped_19 : decode zb_MPainter_wrapped 19 = .ok (.lcmp, 1) := by decide +kernel
theorem zd_MPainter_wrapped_20 : decode zb_MPainter_wrapped 20 = .ok (.ifCond .ge 7, 3) := by decide +kernel
theorem zd_MPainter_wrapped_23 : decode zb_MPainter_wrapped 23 = .ok (.iconst 0, 1) := by decide +kernel
theorem zd_MPainter_wrapped_24 : decode zb_MPainter_wrapped 24 = .ok (.goto 18, 3) := by decide +kernel
theorem zd_MPainter_wrapped_27 : decode zb_MPainter_wrapped 27 = .ok (.lload_n 0, 1) := by decide +kernel
theorem zd_MPainter_wrapped_28 : decode zb_MPainter_wrapped 28 = .ok (.iload_n 2, 1) := by decide +kernel
theorem zd_MPainter_wrapped_29 : decode zb_MPainter_wrapped 29 = .ok (.i2l, 1) := by decide +kernel
theorem zd_MPainter_wrapped_30 : decode zb_MPainter_wrapped 30 = .ok (.lcmp, 1) := by decide +kernel
theorem zd_MPainter_wrapped_31 : decode zb_MPainter_wrapped 31 = .ok (.ifCond .lt 9, 3) := by decide +kernel
theorem zd_MPainter_wrapped_34 : decode zb_MPainter_wrapped 34 = .ok (.iload_n 2, 1) := by decide +kernel
theorem zd_MPainter_wrapped_35 : decode zb_MPainter_wrapped 35 = .ok (.iconst 1, 1) := by decide +kernel
theorem zd_MPainter_wrapped_36 : decode zb_MPainter_wrapped 36 = .ok (.isub, 1) := by decide +kernel
theorem zd_MPainter_wrapped_37 : decode zb_MPainter_wrapped 37 = .ok (.goto 5, 3) := by decide +kernel
theorem zd_MPainter_wrapped_40 : decode zb_MPainter_wrapped 40 = .ok (.lload_n 0, 1) := by decide +kernel
theorem zd_MPainter_wrapped_41 : decode zb_MPainter_wrapped 41 = .ok (.l2i, 1) := by decide +kernel
theorem zd_MPainter_wrapped_42 : decode zb_MPainter_wrapped 42 = .ok (.ireturn, 1) := by decide +kernel
theorem zd_MPainter_wrapped_43 : decode zb_MPainter_wrapped 43 = .ok (.lload_n 0, 1) := by decide +kernel
theorem zd_MPainter_wrapped_44 : decode zb_MPainter_wrapped 44 = .ok (.ldc2_w 310, 3) := by decide +kernel
theorem zd_MPainter_wrapped_47 : decode zb_MPainter_wrapped 47 = .ok (.iload_n 2, 1) := by decide +kernel
theorem zd_MPainter_wrapped_48 : decode zb_MPainter_wrapped 48 = .ok (.i2l, 1) := by decide +kernel
theorem zd_MPainter_wrapped_49 : decode zb_MPainter_wrapped 49 = .ok (.lmul, 1) := by decide +kernel
theorem zd_MPainter_wrapped_50 : decode zb_MPainter_wrapped 50 = .ok (.invokestatic 88, 3) := by decide +kernel
theorem zd_MPainter_wrapped_53 : decode zb_MPainter_wrapped 53 = .ok (.l2i, 1) := by decide +kernel
theorem zd_MPainter_wrapped_54 : decode zb_MPainter_wrapped 54 = .ok (.istore 4, 2) := by decide +kernel
theorem zd_MPainter_wrapped_56 : decode zb_MPainter_wrapped 56 = .ok (.iload 4, 2) := by decide +kernel
theorem zd_MPainter_wrapped_58 : decode zb_MPainter_wrapped 58 = .ok (.iload_n 2, 1) := by decide +kernel
theorem zd_MPainter_wrapped_59 : decode zb_MPainter_wrapped 59 = .ok (.if_icmp .lt 14, 3) := by decide +kernel
theorem zd_MPainter_wrapped_62 : decode zb_MPainter_wrapped 62 = .ok (.iconst 2, 1) := by decide +kernel
theorem zd_MPainter_wrapped_63 : decode zb_MPainter_wrapped 63 = .ok (.iload_n 2, 1) := by decide +kernel
theorem zd_MPainter_wrapped_64 : decode zb_MPainter_wrapped 64 = .ok (.imul, 1) := by decide +kernel
theorem zd_MPainter_wrapped_65 : decode zb_MPainter_wrapped 65 = .ok (.iconst 1, 1) := by decide +kernel
theorem zd_MPainter_wrapped_66 : decode zb_MPainter_wrapped 66 = .ok (.isub, 1) := by decide +kernel
theorem zd_MPainter_wrapped_67 : decode zb_MPainter_wrapped 67 = .ok (.iload 4, 2) := by decide +kernel
theorem zd_MPainter_wrapped_69 : decode zb_MPainter_wrapped 69 = .ok (.isub, 1) := by decide +kernel
theorem zd_MPainter_wrapped_70 : decode zb_MPainter_wrapped 70 = .ok (.goto 5, 3) := by decide +kernel
theorem zd_MPainter_wrapped_73 : decode zb_MPainter_wrapped 73 = .ok (.iload 4, 2) := by decide +kernel
theorem zd_MPainter_wrapped_75 : decode zb_MPainter_wrapped 75 = .ok (.ireturn, 1) := by decide +kernel
theorem zw_2150 : (Jvm.Cond.constantLong "OrreryBoxModel$Painter" (310 : Nat) (2 : Int64)) ∈ gw := gw_t 2150 (by decide +kernel) rfl
def F_MPainter_wrapped (sh : zSh) (mm : zMem) (x0_ : Int64) (x1_ : Int32) (x2_ : Int32) : Option (Int32 × zMem) := (if x2_ = 0 then Option.bind (F_JMath_floorMod sh mm x0_ ((x1_ : Int32).toInt64)) (fun p8 => some (((p8.1 : Int64).toInt32), p8.2)) else (if x2_ = 1 then (if 0 ≤ (lg_cmp x0_ 0) then (if (lg_cmp x0_ ((x1_ : Int32).toInt64)) < 0 then some (((x0_ : Int64).toInt32), mm) else some ((x1_ - 1), mm)) else some (0, mm)) else Option.bind (F_JMath_floorMod sh mm x0_ (2 * ((x1_ : Int32).toInt64))) (fun p3 => zoL ((p3.1 : Int64).toInt32) (fun x4 => (if x4 < x1_ then some (x4, p3.2) else some ((((2 * x1_) - 1) - x4), p3.2))))))
set_option maxHeartbeats 4000000 in
set_option maxRecDepth 100000 in
theorem k_MPainter_wrapped (l : Launch) (D : va_G) (tA : Nat → ClassId) (b : Nat) (sh : zSh) (n : Nat) {mm : zMem} {x0_ : Int64} {x1_ : Int32} {x2_ : Int32} {r : (Int32 × zMem)} (h : F_MPainter_wrapped sh mm x0_ x1_ x2_ = some r) : zM l D tA b zy_MPainter_wrapped zb_MPainter_wrapped 5 (some .int) 1 25 0 0 [.long x0_, .int x1_, .int x2_] (zW tA b sh mm) n (zE (some (.int (r.1))) (zW tA b sh r.2) n) := by
  unfold F_MPainter_wrapped at h
  refine zM_of (own := "OrreryBoxModel$Painter") (plainFor_of_name (by decide)) rfl (Nat.le_of_ble_eq_true rfl) (fun p e s m below meth c F hr hin hH => ?_)
  refine zr_iload_n F zd_MPainter_wrapped_0 rfl ?_
  refine zr_if_ne F 12 zd_MPainter_wrapped_1 (by decide) (fun hb1 => ?_) (fun hb1 => ?_)
  ·
    rw [if_neg hb1] at h
    refine zr_iload_n F zd_MPainter_wrapped_12 rfl ?_
    refine zr_iconstv (v := 1) F zd_MPainter_wrapped_13 (by decide) ?_
    refine zr_icmp_ne F 43 zd_MPainter_wrapped_14 (by decide) (fun hb2 => ?_) (fun hb2 => ?_)
    ·
      rw [if_neg hb2] at h
      refine zr_lload_n F zd_MPainter_wrapped_43 rfl ?_
      refine zr_ldc2 F zd_MPainter_wrapped_44 zw_2150 ?_
      refine zr_pcn 47 rfl ?_
      refine zr_iload_n F zd_MPainter_wrapped_47 rfl ?_
      refine zr_i2l F zd_MPainter_wrapped_48 ?_
      refine zr_lmul F zd_MPainter_wrapped_49 ?_
      obtain ⟨p3, ep3, h⟩ := zoB_s h
      refine zr_callS1 F (k_JMath_floorMod l D tA b sh _ ep3) zd_MPainter_wrapped_50 zs_MPainter_88 zq_JMath_floorMod rfl rfl ⟨(Nat.le_of_ble_eq_true rfl), (Nat.le_of_ble_eq_true rfl)⟩ (Nat.le_of_ble_eq_true rfl) ⟨(Nat.le_of_ble_eq_true rfl), (Nat.le_of_ble_eq_true rfl)⟩ ?_
      refine zr_l2i F zd_MPainter_wrapped_53 ?_
      obtain ⟨x4, ex4, h⟩ := zoL_s h
      rw [← ex4]
      refine zr_istore F zd_MPainter_wrapped_54 (by decide) ?_
      refine zr_iload F zd_MPainter_wrapped_56 rfl ?_
      refine zr_iload_n F zd_MPainter_wrapped_58 rfl ?_
      refine zr_pcn 59 rfl ?_
      refine zr_icmp_lt F 73 zd_MPainter_wrapped_59 (by decide) (fun hb5 => ?_) (fun hb5 => ?_)
      ·
        rw [if_pos hb5] at h
        refine zr_iload F zd_MPainter_wrapped_73 rfl ?_
        obtain rfl := Option.some.inj h
        exact zr_iret F hr zd_MPainter_wrapped_75 (Nat.le_of_ble_eq_true rfl) (Nat.le_of_ble_eq_true rfl) ⟨rfl, rfl, rfl⟩
      ·
        rw [if_neg hb5] at h
        refine zr_iconstv (v := 2) F zd_MPainter_wrapped_62 (by decide) ?_
        refine zr_iload_n F zd_MPainter_wrapped_63 rfl ?_
        refine zr_imul F zd_MPainter_wrapped_64 ?_
        refine zr_iconstv (v := 1) F zd_MPainter_wrapped_65 (by decide) ?_
        refine zr_isub F zd_MPainter_wrapped_66 ?_
        refine zr_pcn 67 rfl ?_
        refine zr_iload F zd_MPainter_wrapped_67 rfl ?_
        refine zr_isub F zd_MPainter_wrapped_69 ?_
        refine zr_goto F 75 zd_MPainter_wrapped_70 (by decide) ?_
        obtain rfl := Option.some.inj h
        exact zr_iret F hr zd_MPainter_wrapped_75 (Nat.le_of_ble_eq_true rfl) (Nat.le_of_ble_eq_true rfl) ⟨rfl, rfl, rfl⟩
    ·
      rw [if_pos hb2] at h
      refine zr_lload_n F zd_MPainter_wrapped_17 rfl ?_
      refine zr_lconstv (v := 0) F zd_MPainter_wrapped_18 (by decide) ?_
      refine zr_lcmp F zd_MPainter_wrapped_19 ?_
      refine zr_if_ge F 27 zd_MPainter_wrapped_20 (by decide) (fun hb6 => ?_) (fun hb6 => ?_)
      ·
        rw [if_pos hb6] at h
        refine zr_pcn 27 rfl ?_
        refine zr_lload_n F zd_MPainter_wrapped_27 rfl ?_
        refine zr_iload_n F zd_MPainter_wrapped_28 rfl ?_
        refine zr_i2l F zd_MPainter_wrapped_29 ?_
        refine zr_lcmp F zd_MPainter_wrapped_30 ?_
        refine zr_if_lt F 40 zd_MPainter_wrapped_31 (by decide) (fun hb7 => ?_) (fun hb7 => ?_)
        ·
          rw [if_pos hb7] at h
          refine zr_lload_n F zd_MPainter_wrapped_40 rfl ?_
          refine zr_l2i F zd_MPainter_wrapped_41 ?_
          obtain rfl := Option.some.inj h
          exact zr_iret F hr zd_MPainter_wrapped_42 (Nat.le_of_ble_eq_true rfl) (Nat.le_of_ble_eq_true rfl) ⟨rfl, rfl, rfl⟩
        ·
          rw [if_neg hb7] at h
          refine zr_pcn 34 rfl ?_
          refine zr_iload_n F zd_MPainter_wrapped_34 rfl ?_
          refine zr_iconstv (v := 1) F zd_MPainter_wrapped_35 (by decide) ?_
          refine zr_isub F zd_MPainter_wrapped_36 ?_
          refine zr_goto F 42 zd_MPainter_wrapped_37 (by decide) ?_
          obtain rfl := Option.some.inj h
          exact zr_iret F hr zd_MPainter_wrapped_42 (Nat.le_of_ble_eq_true rfl) (Nat.le_of_ble_eq_true rfl) ⟨rfl, rfl, rfl⟩
      ·
        rw [if_neg hb6] at h
        refine zr_iconstv (v := 0) F zd_MPainter_wrapped_23 (by decide) ?_
        refine zr_goto F 42 zd_MPainter_wrapped_24 (by decide) ?_
        obtain rfl := Option.some.inj h
        exact zr_iret F hr zd_MPainter_wrapped_42 (Nat.le_of_ble_eq_true rfl) (Nat.le_of_ble_eq_true rfl) ⟨rfl, rfl, rfl⟩
  ·
    rw [if_pos hb1] at h
    refine zr_pcn 4 rfl ?_
    refine zr_lload_n F zd_MPainter_wrapped_4 rfl ?_
    refine zr_iload_n F zd_MPainter_wrapped_5 rfl ?_
    refine zr_i2l F zd_MPainter_wrapped_6 ?_
    obtain ⟨p8, ep8, h⟩ := zoB_s h
    refine zr_callS1 F (k_JMath_floorMod l D tA b sh _ ep8) zd_MPainter_wrapped_7 zs_MPainter_88 zq_JMath_floorMod rfl rfl ⟨(Nat.le_of_ble_eq_true rfl), (Nat.le_of_ble_eq_true rfl)⟩ (Nat.le_of_ble_eq_true rfl) ⟨(Nat.le_of_ble_eq_true rfl), (Nat.le_of_ble_eq_true rfl)⟩ ?_
    refine zr_l2i F zd_MPainter_wrapped_10 ?_
    obtain rfl := Option.some.inj h
    exact zr_iret F hr zd_MPainter_wrapped_11 (Nat.le_of_ble_eq_true rfl) (Nat.le_of_ble_eq_true rfl) ⟨rfl, rfl, rfl⟩
theorem zf_I_14_4 (b : Nat) (m : zMem) (k : Nat) (v : Int32) : (zfl b 14 m k).set 4 (.int v) = zfl b 14 (mI m k 4 v) k := by simp [zfl, mI, upd, vp_updL]
theorem zf_I_14_5 (b : Nat) (m : zMem) (k : Nat) (v : Int32) : (zfl b 14 m k).set 5 (.int v) = zfl b 14 (mI m k 5 v) k := by simp [zfl, mI, upd, vp_updL]
def F_MReader_fail (sh : zSh) (mm : zMem) (o : Nat) (x0_ : Int32) (x1_ : Int32) : Option zMem := zoS (sh o) 14 (fun le2 => (if (mm.1 o 4) = 0 then zoS (sh o) 14 (fun le5 => zoL (mI mm o 4 x0_) (fun mm6 => zoS (sh o) 14 (fun le8 => zoL (mI mm6 o 5 x1_) (fun mm9 => some mm9)))) else some mm))
set_option maxHeartbeats 4000000 in
set_option maxRecDepth 100000 in
theorem k_MReader_fail (l : Launch) (D : va_G) (tA : Nat → ClassId) (b : Nat) (sh : zSh) (n : Nat) {mm : zMem} {o : Nat} {x0_ : Int32} {x1_ : Int32} {r : zMem} (h : F_MReader_fail sh mm o x0_ x1_ = some r) : zM l D tA b zy_MReader_fail zb_MReader_fail 3 none 0 0 0 0 [.ref (b + o), .int x0_, .int x1_] (zW tA b sh mm) n (zE none (zW tA b sh r) n) := by
  unfold F_MReader_fail at h
  refine zM_of (own := "OrreryBoxModel$Reader") (plainFor_of_name (by decide)) rfl (Nat.le_of_ble_eq_true rfl) (fun p e s m below meth c F hr hin hH => ?_)
  refine zr_aload_n F zd_MReader_fail_0 rfl ?_
  obtain ⟨le2, hs1, h⟩ := zoS_s h
  refine zr_get F 14 4 zd_MReader_fail_1 (zW_o hs1 (by decide)) rfl (by decide) zw_1508 rfl (by rfl) ?_
  refine zr_if_eq F 8 zd_MReader_fail_4 (by decide) (fun hb3 => ?_) (fun hb3 => ?_)
  ·
    rw [if_pos hb3] at h
    refine zr_aload_n F zd_MReader_fail_8 rfl ?_
    refine zr_iload_n F zd_MReader_fail_9 rfl ?_
    obtain ⟨le5, hs4, h⟩ := zoS_s h
    refine zr_put F 14 4 zd_MReader_fail_10 (zW_o hs4 (by decide)) rfl (by decide) zw_1508 rfl rfl rfl rfl (by exact (Nat.le_of_ble_eq_true rfl)) ?_
    obtain ⟨mm6, emm6, h⟩ := zoL_s h
    refine zr_norm (zW tA b sh mm6) _ (by rw [emm6]; exact zW_pI (v := x0_) hs4 (by decide) (zf_I_14_4 b _ _ _)) rfl ?_
    refine zr_aload_n F zd_MReader_fail_13 rfl ?_
    refine zr_pcn 14 rfl ?_
    refine zr_iload_n F zd_MReader_fail_14 rfl ?_
    obtain ⟨le8, hs7, h⟩ := zoS_s h
    refine zr_put F 14 5 zd_MReader_fail_15 (zW_o hs7 (by decide)) rfl (by decide) zw_1510 rfl rfl rfl rfl (by exact (Nat.le_of_ble_eq_true rfl)) ?_
    obtain ⟨mm9, emm9, h⟩ := zoL_s h
    refine zr_norm (zW tA b sh mm9) _ (by rw [emm9]; exact zW_pI (v := x1_) hs7 (by decide) (zf_I_14_5 b _ _ _)) rfl ?_
    obtain rfl := Option.some.inj h
    exact zr_vret F hr zd_MReader_fail_18 (Nat.le_of_ble_eq_true rfl) (Nat.le_of_ble_eq_true rfl) ⟨rfl, rfl, rfl⟩
  ·
    rw [if_neg hb3] at h
    obtain rfl := Option.some.inj h
    exact zr_vret F hr zd_MReader_fail_7 (Nat.le_of_ble_eq_true rfl) (Nat.le_of_ble_eq_true rfl) ⟨rfl, rfl, rfl⟩
def F_MReader_byteAt (sh : zSh) (mm : zMem) (o : Nat) (x0_ : Int32) : Option (Int32 × zMem) := zoS (sh o) 14 (fun le2 => (if (mm.1 o 2) ≤ x0_ then some ((-1), mm) else zoS (sh o) 14 (fun le5 => Option.bind (mm.2.2 o 0) (fun a6 => zoS (sh a6) 101 (fun le8 => if (x0_ : Int32) < 0 ∨ le8 ≤ (x0_ : Int32).toNatClampNeg then none else some (((mm.1 a6 (x0_ : Int32).toNatClampNeg) &&& 255), mm))))))
set_option maxHeartbeats 4000000 in
set_option maxRecDepth 100000 in
theorem k_MReader_byteAt (l : Launch) (D : va_G) (tA : Nat → ClassId) (b : Nat) (sh : zSh) (n : Nat) {mm : zMem} {o : Nat} {x0_ : Int32} {r : (Int32 × zMem)} (h : F_MReader_byteAt sh mm o x0_ = some r) : zM l D tA b zy_MReader_byteAt zb_MReader_byteAt 2 (some .int) 0 0 0 0 [.ref (b + o), .int x0_] (zW tA b sh mm) n (zE (some (.int (r.1))) (zW tA b sh r.2) n) := by
  unfold F_MReader_byteAt at h
  refine zM_of (own := "OrreryBoxModel$Reader") (plainFor_of_name (by decide)) rfl (Nat.le_of_ble_eq_true rfl) (fun p e s m below meth c F hr hin hH => ?_)
  refine zr_iload_n F zd_MReader_byteAt_0 rfl ?_
  refine zr_aload_n F zd_MReader_byteAt_1 rfl ?_
  obtain ⟨le2, hs1, h⟩ := zoS_s h
  refine zr_get F 14 2 zd_MReader_byteAt_2 (zW_o hs1 (by decide)) rfl (by decide) zw_1506 rfl (by rfl) ?_
  refine zr_icmp_ge F 21 zd_MReader_byteAt_5 (by decide) (fun hb3 => ?_) (fun hb3 => ?_)
  ·
    rw [if_pos hb3] at h
    refine zr_iconstv (v := (-1)) F zd_MReader_byteAt_21 (by decide) ?_
    obtain rfl := Option.some.inj h
    exact zr_iret F hr zd_MReader_byteAt_22 (Nat.le_of_ble_eq_true rfl) (Nat.le_of_ble_eq_true rfl) ⟨rfl, rfl, rfl⟩
  ·
    rw [if_neg hb3] at h
    refine zr_aload_n F zd_MReader_byteAt_8 rfl ?_
    refine zr_pcn 9 rfl ?_
    obtain ⟨le5, hs4, h⟩ := zoS_s h
    obtain ⟨a6, ea6, h⟩ := zoB_s h
    refine zr_get F 14 0 zd_MReader_byteAt_9 (zW_o hs4 (by decide)) rfl (by decide) zw_1504 rfl (by rfl) ?_
    refine zr_tor ea6 ?_
    refine zr_iload_n F zd_MReader_byteAt_12 rfl ?_
    obtain ⟨le8, hs7, h⟩ := zoS_s h
    obtain ⟨hi9, h⟩ := zoI_s h
    refine zr_bald F zd_MReader_byteAt_13 (zW_a1 hs7) hi9 ?_
    refine zr_sipushv (v := 255) F zd_MReader_byteAt_14 (by decide) ?_
    refine zr_iand F zd_MReader_byteAt_17 ?_
    refine zr_goto F 22 zd_MReader_byteAt_18 (by decide) ?_
    obtain rfl := Option.some.inj h
    exact zr_iret F hr zd_MReader_byteAt_22 (Nat.le_of_ble_eq_true rfl) (Nat.le_of_ble_eq_true rfl) ⟨rfl, rfl, rfl⟩
theorem zf_I_14_3 (b : Nat) (m : zMem) (k : Nat) (v : Int32) : (zfl b 14 m k).set 3 (.int v) = zfl b 14 (mI m k 3 v) k := by simp [zfl, mI, upd, vp_updL]
def L_MReader_next_0 (sh : zSh) (fuel : Nat) (v0 : Nat) (mm : zMem) : Option (Nat × zMem) := match fuel with
  | 0 => none
  | fu + 1 => zoS (sh v0) 14 (fun le2 => zoS (sh v0) 14 (fun le4 => Option.bind (F_MReader_byteAt sh mm v0 (mm.1 v0 3)) (fun p5 => (if p5.1 = 32 then zoS (sh v0) 14 (fun le8 => zoL (((p5.2).1 v0 3) + 1) (fun x9 => zoS (sh v0) 14 (fun le11 => zoL (mI (p5.2) v0 3 x9) (fun mm12 => L_MReader_next_0 sh fu v0 mm12)))) else zoS (sh v0) 14 (fun le14 => zoS (sh v0) 14 (fun le16 => Option.bind (F_MReader_byteAt sh (p5.2) v0 ((p5.2).1 v0 3)) (fun p17 => (if p17.1 = 10 then zoS (sh v0) 14 (fun le20 => zoL (((p17.2).1 v0 3) + 1) (fun x21 => zoS (sh v0) 14 (fun le23 => zoL (mI (p17.2) v0 3 x21) (fun mm24 => L_MReader_next_0 sh fu v0 mm24)))) else zoS (sh v0) 14 (fun le26 => zoS (sh v0) 14 (fun le28 => Option.bind (F_MReader_byteAt sh (p17.2) v0 ((p17.2).1 v0 3)) (fun p29 => (if p29.1 = 13 then zoS (sh v0) 14 (fun le32 => zoL (((p29.2).1 v0 3) + 1) (fun x33 => zoS (sh v0) 14 (fun le35 => zoL (mI (p29.2) v0 3 x33) (fun mm36 => L_MReader_next_0 sh fu v0 mm36)))) else zoS (sh v0) 14 (fun le38 => zoS (sh v0) 14 (fun le40 => Option.bind (F_MReader_byteAt sh (p29.2) v0 ((p29.2).1 v0 3)) (fun p41 => (if p41.1 = 9 then zoS (sh v0) 14 (fun le44 => zoL (((p41.2).1 v0 3) + 1) (fun x45 => zoS (sh v0) 14 (fun le47 => zoL (mI (p41.2) v0 3 x45) (fun mm48 => L_MReader_next_0 sh fu v0 mm48)))) else some (v0, p41.2)))))))))))))))))
set_option maxHeartbeats 4000000 in
set_option maxRecDepth 100000 in
theorem lp_MReader_next_0 {p : Program} {l : Launch} {e : Env} {s : State} {m : MethodId} {args : Array Value} {below : List Frame} {meth : Method} {c : Code} {D : va_G} {tA : Nat → ClassId} {b n : Nat} {post : Option Value → zV → Nat → Prop} {sh : zSh} (F : zF p s m args meth c zb_MReader_next 1 "OrreryBoxModel$Reader" D tA b) : ∀ (fuel : Nat) (v0 : Nat) (mm : zMem) (r : Nat × zMem), L_MReader_next_0 sh fuel v0 mm = some r → (Z p l e { frames := 1, cells := 0, slots := 0, locals := 21 } s m args below meth c D b 1 (MQ below (zQ D b post) args s 0 0 (fun q => b ≤ q)) (zW tA b sh r.2) n 0 0 65 [(0, .ref (b + (r.1)))] []) → Z p l e { frames := 1, cells := 0, slots := 0, locals := 21 } s m args below meth c D b 1 (MQ below (zQ D b post) args s 0 0 (fun q => b ≤ q)) (zW tA b sh mm) n 0 0 0 [(0, .ref (b + v0))] [] := by
  intro fuel
  induction fuel with
  | zero =>
    intro v0 mm r h
    cases h
  | succ fu ih =>
    intro v0 mm r h hx0
    rw [L_MReader_next_0] at h
    refine zr_aload_n F zd_MReader_next_0 rfl ?_
    refine zr_aload_n F zd_MReader_next_1 rfl ?_
    obtain ⟨le2, hs1, h⟩ := zoS_s h
    refine zr_get F 14 3 zd_MReader_next_2 (zW_o hs1 (by decide)) rfl (by decide) zw_1507 rfl (by rfl) ?_
    obtain ⟨le4, hs3, h⟩ := zoS_s h
    obtain ⟨p5, ep5, h⟩ := zoB_s h
    refine zr_callV1 F (k_MReader_byteAt l D tA b sh _ ep5) zd_MReader_next_5 (zW_o hs3 (by decide)) rfl zs_MReader_30 rfl zq_MReader_byteAt rfl rfl ⟨(Nat.le_of_ble_eq_true rfl), (Nat.le_of_ble_eq_true rfl)⟩ (Nat.le_of_ble_eq_true rfl) ⟨(Nat.le_of_ble_eq_true rfl), (Nat.le_of_ble_eq_true rfl)⟩ ?_
    refine zr_bipushv (v := 32) F zd_MReader_next_8 (by decide) ?_
    refine zr_icmp_eq F 52 zd_MReader_next_10 (by decide) (fun hb6 => ?_) (fun hb6 => ?_)
    ·
      rw [if_pos hb6] at h
      refine zr_aload_n F zd_MReader_next_52 rfl ?_
      refine zr_pcn 53 rfl ?_
      refine zr_dup F zd_MReader_next_53 rfl ?_
      obtain ⟨le8, hs7, h⟩ := zoS_s h
      refine zr_get F 14 3 zd_MReader_next_54 (zW_o hs7 (by decide)) rfl (by decide) zw_1507 rfl (by rfl) ?_
      refine zr_iconstv (v := 1) F zd_MReader_next_57 (by decide) ?_
      refine zr_iadd F zd_MReader_next_58 ?_
      obtain ⟨x9, ex9, h⟩ := zoL_s h
      rw [← ex9]
      obtain ⟨le11, hs10, h⟩ := zoS_s h
      refine zr_put F 14 3 zd_MReader_next_59 (zW_o hs10 (by decide)) rfl (by decide) zw_1507 rfl rfl rfl rfl (by exact (Nat.le_of_ble_eq_true rfl)) ?_
      obtain ⟨mm12, emm12, h⟩ := zoL_s h
      refine zr_norm (zW tA b sh mm12) _ (by rw [emm12]; exact zW_pI (v := x9) hs10 (by decide) (zf_I_14_3 b _ _ _)) rfl ?_
      refine zr_goto F 0 zd_MReader_next_62 (by decide) ?_
      refine zr_loc (L' := [(0, .ref (b + v0))]) ⟨rfl, trivial⟩ ?_
      exact ih _ _ _ h hx0
    ·
      rw [if_neg hb6] at h
      refine zr_aload_n F zd_MReader_next_13 rfl ?_
      refine zr_aload_n F zd_MReader_next_14 rfl ?_
      refine zr_pcn 15 rfl ?_
      obtain ⟨le14, hs13, h⟩ := zoS_s h
      refine zr_get F 14 3 zd_MReader_next_15 (zW_o hs13 (by decide)) rfl (by decide) zw_1507 rfl (by rfl) ?_
      obtain ⟨le16, hs15, h⟩ := zoS_s h
      obtain ⟨p17, ep17, h⟩ := zoB_s h
      refine zr_callV1 F (k_MReader_byteAt l D tA b sh _ ep17) zd_MReader_next_18 (zW_o hs15 (by decide)) rfl zs_MReader_30 rfl zq_MReader_byteAt rfl rfl ⟨(Nat.le_of_ble_eq_true rfl), (Nat.le_of_ble_eq_true rfl)⟩ (Nat.le_of_ble_eq_true rfl) ⟨(Nat.le_of_ble_eq_true rfl), (Nat.le_of_ble_eq_true rfl)⟩ ?_
      refine zr_bipushv (v := 10) F zd_MReader_next_21 (by decide) ?_
      refine zr_icmp_eq F 52 zd_MReader_next_23 (by decide) (fun hb18 => ?_) (fun hb18 => ?_)
      ·
        rw [if_pos hb18] at h
        refine zr_aload_n F zd_MReader_next_52 rfl ?_
        refine zr_dup F zd_MReader_next_53 rfl ?_
        obtain ⟨le20, hs19, h⟩ := zoS_s h
        refine zr_get F 14 3 zd_MReader_next_54 (zW_o hs19 (by decide)) rfl (by decide) zw_1507 rfl (by rfl) ?_
        refine zr_iconstv (v := 1) F zd_MReader_next_57 (by decide) ?_
        refine zr_pcn 58 rfl ?_
        refine zr_iadd F zd_MReader_next_58 ?_
        obtain ⟨x21, ex21, h⟩ := zoL_s h
        rw [← ex21]
        obtain ⟨le23, hs22, h⟩ := zoS_s h
        refine zr_put F 14 3 zd_MReader_next_59 (zW_o hs22 (by decide)) rfl (by decide) zw_1507 rfl rfl rfl rfl (by exact (Nat.le_of_ble_eq_true rfl)) ?_
        obtain ⟨mm24, emm24, h⟩ := zoL_s h
        refine zr_norm (zW tA b sh mm24) _ (by rw [emm24]; exact zW_pI (v := x21) hs22 (by decide) (zf_I_14_3 b _ _ _)) rfl ?_
        refine zr_goto F 0 zd_MReader_next_62 (by decide) ?_
        refine zr_loc (L' := [(0, .ref (b + v0))]) ⟨rfl, trivial⟩ ?_
        exact ih _ _ _ h hx0
      ·
        rw [if_neg hb18] at h
        refine zr_aload_n F zd_MReader_next_26 rfl ?_
        refine zr_aload_n F zd_MReader_next_27 rfl ?_
        obtain ⟨le26, hs25, h⟩ := zoS_s h
        refine zr_get F 14 3 zd_MReader_next_28 (zW_o hs25 (by decide)) rfl (by decide) zw_1507 rfl (by rfl) ?_
        obtain ⟨le28, hs27, h⟩ := zoS_s h
        obtain ⟨p29, ep29, h⟩ := zoB_s h
        refine zr_callV1 F (k_MReader_byteAt l D tA b sh _ ep29) zd_MReader_next_31 (zW_o hs27 (by decide)) rfl zs_MReader_30 rfl zq_MReader_byteAt rfl rfl ⟨(Nat.le_of_ble_eq_true rfl), (Nat.le_of_ble_eq_true rfl)⟩ (Nat.le_of_ble_eq_true rfl) ⟨(Nat.le_of_ble_eq_true rfl), (Nat.le_of_ble_eq_true rfl)⟩ ?_
        refine zr_bipushv (v := 13) F zd_MReader_next_34 (by decide) ?_
        refine zr_pcn 36 rfl ?_
        refine zr_icmp_eq F 52 zd_MReader_next_36 (by decide) (fun hb30 => ?_) (fun hb30 => ?_)
        ·
          rw [if_pos hb30] at h
          refine zr_aload_n F zd_MReader_next_52 rfl ?_
          refine zr_dup F zd_MReader_next_53 rfl ?_
          obtain ⟨le32, hs31, h⟩ := zoS_s h
          refine zr_get F 14 3 zd_MReader_next_54 (zW_o hs31 (by decide)) rfl (by decide) zw_1507 rfl (by rfl) ?_
          refine zr_iconstv (v := 1) F zd_MReader_next_57 (by decide) ?_
          refine zr_iadd F zd_MReader_next_58 ?_
          obtain ⟨x33, ex33, h⟩ := zoL_s h
          rw [← ex33]
          obtain ⟨le35, hs34, h⟩ := zoS_s h
          refine zr_put F 14 3 zd_MReader_next_59 (zW_o hs34 (by decide)) rfl (by decide) zw_1507 rfl rfl rfl rfl (by exact (Nat.le_of_ble_eq_true rfl)) ?_
          obtain ⟨mm36, emm36, h⟩ := zoL_s h
          refine zr_norm (zW tA b sh mm36) _ (by rw [emm36]; exact zW_pI (v := x33) hs34 (by decide) (zf_I_14_3 b _ _ _)) rfl ?_
          refine zr_goto F 0 zd_MReader_next_62 (by decide) ?_
          refine zr_loc (L' := [(0, .ref (b + v0))]) ⟨rfl, trivial⟩ ?_
          exact ih _ _ _ h hx0
        ·
          rw [if_neg hb30] at h
          refine zr_pcn 39 rfl ?_
          refine zr_aload_n F zd_MReader_next_39 rfl ?_
          refine zr_aload_n F zd_MReader_next_40 rfl ?_
          obtain ⟨le38, hs37, h⟩ := zoS_s h
          refine zr_get F 14 3 zd_MReader_next_41 (zW_o hs37 (by decide)) rfl (by decide) zw_1507 rfl (by rfl) ?_
          obtain ⟨le40, hs39, h⟩ := zoS_s h
          obtain ⟨p41, ep41, h⟩ := zoB_s h
          refine zr_callV1 F (k_MReader_byteAt l D tA b sh _ ep41) zd_MReader_next_44 (zW_o hs39 (by decide)) rfl zs_MReader_30 rfl zq_MReader_byteAt rfl rfl ⟨(Nat.le_of_ble_eq_true rfl), (Nat.le_of_ble_eq_true rfl)⟩ (Nat.le_of_ble_eq_true rfl) ⟨(Nat.le_of_ble_eq_true rfl), (Nat.le_of_ble_eq_true rfl)⟩ ?_
          refine zr_bipushv (v := 9) F zd_MReader_next_47 (by decide) ?_
          refine zr_icmp_ne F 65 zd_MReader_next_49 (by decide) (fun hb42 => ?_) (fun hb42 => ?_)
          ·
            rw [if_neg hb42] at h
            obtain rfl := Option.some.inj h
            refine zr_loc (L' := [(0, .ref (b + v0))]) ⟨rfl, trivial⟩ ?_
            exact hx0 
          ·
            rw [if_pos hb42] at h
            refine zr_aload_n F zd_MReader_next_52 rfl ?_
            refine zr_dup F zd_MReader_next_53 rfl ?_
            refine zr_pcn 54 rfl ?_
            obtain ⟨le44, hs43, h⟩ := zoS_s h
            refine zr_get F 14 3 zd_MReader_next_54 (zW_o hs43 (by decide)) rfl (by decide) zw_1507 rfl (by rfl) ?_
            refine zr_iconstv (v := 1) F zd_MReader_next_57 (by decide) ?_
            refine zr_iadd F zd_MReader_next_58 ?_
            obtain ⟨x45, ex45, h⟩ := zoL_s h
            rw [← ex45]
            obtain ⟨le47, hs46, h⟩ := zoS_s h
            refine zr_put F 14 3 zd_MReader_next_59 (zW_o hs46 (by decide)) rfl (by decide) zw_1507 rfl rfl rfl rfl (by exact (Nat.le_of_ble_eq_true rfl)) ?_
            obtain ⟨mm48, emm48, h⟩ := zoL_s h
            refine zr_norm (zW tA b sh mm48) _ (by rw [emm48]; exact zW_pI (v := x45) hs46 (by decide) (zf_I_14_3 b _ _ _)) rfl ?_
            refine zr_goto F 0 zd_MReader_next_62 (by decide) ?_
            refine zr_loc (L' := [(0, .ref (b + v0))]) ⟨rfl, trivial⟩ ?_
            exact ih _ _ _ h hx0
def F_MReader_next (sh : zSh) (mm : zMem) (o : Nat) : Option (Int32 × zMem) := Option.bind (L_MReader_next_0 sh zfuel o mm) (fun q49 => zoS (sh (q49.1)) 14 (fun le51 => zoS (sh (q49.1)) 14 (fun le53 => Option.bind (F_MReader_byteAt sh (q49.2) (q49.1) ((q49.2).1 (q49.1) 3)) (fun p54 => some (p54.1, p54.2)))))
set_option maxHeartbeats 4000000 in
set_option maxRecDepth 100000 in
theorem k_MReader_next (l : Launch) (D : va_G) (tA : Nat → ClassId) (b : Nat) (sh : zSh) (n : Nat) {mm : zMem} {o : Nat} {r : (Int32 × zMem)} (h : F_MReader_next sh mm o = some r) : zM l D tA b zy_MReader_next zb_MReader_next 1 (some .int) 1 21 0 0 [.ref (b + o)] (zW tA b sh mm) n (zE (some (.int (r.1))) (zW tA b sh r.2) n) := by
  unfold F_MReader_next at h
  refine zM_of (own := "OrreryBoxModel$Reader") (plainFor_of_name (by decide)) rfl (Nat.le_of_ble_eq_true rfl) (fun p e s m below meth c F hr hin hH => ?_)
  obtain ⟨q49, eq49, h⟩ := zoB_s h
  refine zr_loc (L' := [(0, .ref (b + o))]) ⟨rfl, trivial⟩ ?_
  refine lp_MReader_next_0 F _ _ _ _ eq49 ?_
  ·
    refine zr_aload_n F zd_MReader_next_65 rfl ?_
    refine zr_aload_n F zd_MReader_next_66 rfl ?_
    obtain ⟨le51, hs50, h⟩ := zoS_s h
    refine zr_get F 14 3 zd_MReader_next_67 (zW_o hs50 (by decide)) rfl (by decide) zw_1507 rfl (by rfl) ?_
    refine zr_pcn 70 rfl ?_
    obtain ⟨le53, hs52, h⟩ := zoS_s h
    obtain ⟨p54, ep54, h⟩ := zoB_s h
    refine zr_callV1 F (k_MReader_byteAt l D tA b sh _ ep54) zd_MReader_next_70 (zW_o hs52 (by decide)) rfl zs_MReader_30 rfl zq_MReader_byteAt rfl rfl ⟨(Nat.le_of_ble_eq_true rfl), (Nat.le_of_ble_eq_true rfl)⟩ (Nat.le_of_ble_eq_true rfl) ⟨(Nat.le_of_ble_eq_true rfl), (Nat.le_of_ble_eq_true rfl)⟩ ?_
    obtain rfl := Option.some.inj h
    exact zr_iret F hr zd_MReader_next_73 (Nat.le_of_ble_eq_true rfl) (Nat.le_of_ble_eq_true rfl) ⟨rfl, rfl, rfl⟩
def F_MReader_sign (sh : zSh) (mm : zMem) (o : Nat) (x0_ : Int32) : Option zMem := zoS (sh o) 14 (fun le2 => (if (mm.1 o 4) = 0 then zoS (sh o) 14 (fun le5 => Option.bind (F_MReader_next sh mm o) (fun p6 => (if p6.1 = x0_ then zoS (sh o) 14 (fun le14 => zoL (((p6.2).1 o 3) + 1) (fun x15 => zoS (sh o) 14 (fun le17 => zoL (mI (p6.2) o 3 x15) (fun mm18 => some mm18)))) else zoS (sh o) 14 (fun le9 => zoS (sh o) 14 (fun le11 => Option.bind (F_MReader_fail sh (p6.2) o 1 ((p6.2).1 o 3)) (fun p12 => some p12)))))) else some mm))
set_option maxHeartbeats 4000000 in
set_option maxRecDepth 100000 in
theorem k_MReader_sign (l : Launch) (D : va_G) (tA : Nat → ClassId) (b : Nat) (sh : zSh) (n : Nat) {mm : zMem} {o : Nat} {x0_ : Int32} {r : zMem} (h : F_MReader_sign sh mm o x0_ = some r) : zM l D tA b zy_MReader_sign zb_MReader_sign 2 none 2 41 0 0 [.ref (b + o), .int x0_] (zW tA b sh mm) n (zE none (zW tA b sh r) n) := by
  unfold F_MReader_sign at h
  refine zM_of (own := "OrreryBoxModel$Reader") (plainFor_of_name (by decide)) rfl (Nat.le_of_ble_eq_true rfl) (fun p e s m below meth c F hr hin hH => ?_)
  refine zr_aload_n F zd_MReader_sign_0 rfl ?_
  obtain ⟨le2, hs1, h⟩ := zoS_s h
  refine zr_get F 14 4 zd_MReader_sign_1 (zW_o hs1 (by decide)) rfl (by decide) zw_1508 rfl (by rfl) ?_
  refine zr_if_eq F 8 zd_MReader_sign_4 (by decide) (fun hb3 => ?_) (fun hb3 => ?_)
  ·
    rw [if_pos hb3] at h
    refine zr_aload_n F zd_MReader_sign_8 rfl ?_
    obtain ⟨le5, hs4, h⟩ := zoS_s h
    obtain ⟨p6, ep6, h⟩ := zoB_s h
    refine zr_callV1 F (k_MReader_next l D tA b sh _ ep6) zd_MReader_sign_9 (zW_o hs4 (by decide)) rfl zs_MReader_34 rfl zq_MReader_next rfl rfl ⟨(Nat.le_of_ble_eq_true rfl), (Nat.le_of_ble_eq_true rfl)⟩ (Nat.le_of_ble_eq_true rfl) ⟨(Nat.le_of_ble_eq_true rfl), (Nat.le_of_ble_eq_true rfl)⟩ ?_
    refine zr_iload_n F zd_MReader_sign_12 rfl ?_
    refine zr_icmp_ne F 29 zd_MReader_sign_13 (by decide) (fun hb7 => ?_) (fun hb7 => ?_)
    ·
      rw [if_neg hb7] at h
      refine zr_pcn 29 rfl ?_
      refine zr_aload_n F zd_MReader_sign_29 rfl ?_
      refine zr_iconstv (v := 1) F zd_MReader_sign_30 (by decide) ?_
      refine zr_aload_n F zd_MReader_sign_31 rfl ?_
      obtain ⟨le9, hs8, h⟩ := zoS_s h
      refine zr_get F 14 3 zd_MReader_sign_32 (zW_o hs8 (by decide)) rfl (by decide) zw_1507 rfl (by rfl) ?_
      obtain ⟨le11, hs10, h⟩ := zoS_s h
      obtain ⟨p12, ep12, h⟩ := zoB_s h
      refine zr_callV0 F (k_MReader_fail l D tA b sh _ ep12) zd_MReader_sign_35 (zW_o hs10 (by decide)) rfl zs_MReader_38 rfl zq_MReader_fail rfl rfl ⟨(Nat.le_of_ble_eq_true rfl), (Nat.le_of_ble_eq_true rfl)⟩ (Nat.le_of_ble_eq_true rfl) ⟨(Nat.le_of_ble_eq_true rfl), (Nat.le_of_ble_eq_true rfl)⟩ ?_
      obtain rfl := Option.some.inj h
      exact zr_vret F hr zd_MReader_sign_38 (Nat.le_of_ble_eq_true rfl) (Nat.le_of_ble_eq_true rfl) ⟨rfl, rfl, rfl⟩
    ·
      rw [if_pos hb7] at h
      refine zr_aload_n F zd_MReader_sign_16 rfl ?_
      refine zr_dup F zd_MReader_sign_17 rfl ?_
      refine zr_pcn 18 rfl ?_
      obtain ⟨le14, hs13, h⟩ := zoS_s h
      refine zr_get F 14 3 zd_MReader_sign_18 (zW_o hs13 (by decide)) rfl (by decide) zw_1507 rfl (by rfl) ?_
      refine zr_iconstv (v := 1) F zd_MReader_sign_21 (by decide) ?_
      refine zr_iadd F zd_MReader_sign_22 ?_
      obtain ⟨x15, ex15, h⟩ := zoL_s h
      rw [← ex15]
      obtain ⟨le17, hs16, h⟩ := zoS_s h
      refine zr_put F 14 3 zd_MReader_sign_23 (zW_o hs16 (by decide)) rfl (by decide) zw_1507 rfl rfl rfl rfl (by exact (Nat.le_of_ble_eq_true rfl)) ?_
      obtain ⟨mm18, emm18, h⟩ := zoL_s h
      refine zr_norm (zW tA b sh mm18) _ (by rw [emm18]; exact zW_pI (v := x15) hs16 (by decide) (zf_I_14_3 b _ _ _)) rfl ?_
      refine zr_goto F 38 zd_MReader_sign_26 (by decide) ?_
      obtain rfl := Option.some.inj h
      exact zr_vret F hr zd_MReader_sign_38 (Nat.le_of_ble_eq_true rfl) (Nat.le_of_ble_eq_true rfl) ⟨rfl, rfl, rfl⟩
  ·
    rw [if_neg hb3] at h
    obtain rfl := Option.some.inj h
    exact zr_vret F hr zd_MReader_sign_7 (Nat.le_of_ble_eq_true rfl) (Nat.le_of_ble_eq_true rfl) ⟨rfl, rfl, rfl⟩
abbrev zb_MReader_isWord : ByteArray := prog_17_method_6_code
def zy_MReader_isWord : MethodName := ⟨"OrreryBoxModel$Reader", "isWord", "(Ljava/lang/String;)Z"⟩
theorem zc_MReader_isWord : Cond.code zy_MReader_isWord zb_MReader_isWord 3 (some .boolean) ∈ gw := gw_t 1798 (by decide +kernel) rfl
theorem zq_MReader_isWord : zy_MReader_isWord.cls ≠ "java/lang/invoke/MethodHandle" ∧ zy_MReader_isWord.cls ≠ "java/lang/invoke/VarHandle" ∧ (parseMethodDescriptor zy_MReader_isWord.desc).map (fun d => d.parameters.length) = some 1 := by decide +kernel
theorem zd_MReader_isWord_0 : decode zb_MReader_isWord 0 = .ok (.aload_n 0, 1) := by decide +kernel
theorem zd_MReader_isWord_1 : decode zb_MReader_isWord 1 = .ok (.invokevirtual 34, 3) := by decide +kernel
theorem zd_MReader_isWord_4 : decode zb_MReader_isWord 4 = .ok (.bipush 34, 2) := by decide +kernel
theorem zd_MReader_isWord_6 : decode zb_MReader_isWord 6 = .ok (.if_icmp .ne 23, 3) := by decide +kernel
theorem zd_MReader_isWord_9 : decode zb_MReader_isWord 9 = .ok (.aload_n 0, 1) := by decide +kernel
theorem zd_MReader_isWord_10 : decode zb_MReader_isWord 10 = .ok (.aload_n 0, 1) := by decide +kernel
theorem zd_MReader_isWord_11 : decode zb_MReader_isWord 11 = .ok (.getfield 27, 3) := by decide +kernel
theorem zd_MReader_isWord_14 : decode zb_MReader_isWord 14 = .ok (.iconst 1, 1) := by decide +kernel
theorem zd_MReader_isWord_15 : decode zb_MReader_isWord 15 = .ok (.iadd, 1) := by decide +kernel
theorem zd_MReader_isWord_16 : decode zb_MReader_isWord 16 = .ok (.aload_n 1, 1) := by decide +kernel
theorem zd_MReader_isWord_17 : decode zb_MReader_isWord 17 = .ok (.invokevirtual 42, 3) := by decide +kernel
theorem zd_MReader_isWord_20 : decode zb_MReader_isWord 20 = .ok (.iadd, 1) := by decide +kernel
theorem zd_MReader_isWord_21 : decode zb_MReader_isWord 21 = .ok (.invokevirtual 30, 3) := by decide +kernel
theorem zd_MReader_isWord_24 : decode zb_MReader_isWord 24 = .ok (.bipush 34, 2) := by decide +kernel
theorem zd_MReader_isWord_26 : decode zb_MReader_isWord 26 = .ok (.if_icmp .eq 5, 3) := by decide +kernel
theorem zd_MReader_isWord_29 : decode zb_MReader_isWord 29 = .ok (.iconst 0, 1) := by decide +kernel
theorem zd_MReader_isWord_30 : decode zb_MReader_isWord 30 = .ok (.ireturn, 1) := by decide +kernel
theorem zd_MReader_isWord_31 : decode zb_MReader_isWord 31 = .ok (.iconst 0, 1) := by decide +kernel
theorem zd_MReader_isWord_32 : decode zb_MReader_isWord 32 = .ok (.istore_n 2, 1) := by decide +kernel
theorem zd_MReader_isWord_33 : decode zb_MReader_isWord 33 = .ok (.iload_n 2, 1) := by decide +kernel
theorem zd_MReader_isWord_34 : decode zb_MReader_isWord 34 = .ok (.aload_n 1, 1) := by decide +kernel
theorem zd_MReader_isWord_35 : decode zb_MReader_isWord 35 = .ok (.invokevirtual 42, 3) := by decide +kernel
theorem zd_MReader_isWord_38 : decode zb_MReader_isWord 38 = .ok (.if_icmp .ge 31, 3) := by decide +kernel
theorem zd_MReader_isWord_41 : decode zb_MReader_isWord 41 = .ok (.aload_n 0, 1) := by decide +kernel
theorem zd_MReader_isWord_42 : decode zb_MReader_isWord 42 = .ok (.aload_n 0, 1) := by decide +kernel
theorem zd_MReader_isWord_43 : decode zb_MReader_isWord 43 = .ok (.getfield 27, 3) := by decide +kernel
theorem zd_MReader_isWord_46 : decode zb_MReader_isWord 46 = .ok (.iconst 1, 1) := by decide +kernel
theorem zd_MReader_isWord_47 : decode zb_MReader_isWord 47 = .ok (.iadd, 1) := by decide +kernel
theorem zd_MReader_isWord_48 : decode zb_MReader_isWord 48 = .ok (.iload_n 2, 1) := by decide +kernel
theorem zd_MReader_isWord_49 : decode zb_MReader_isWord 49 = .ok (.iadd, 1) := by decide +kernel
theorem zd_MReader_isWord_50 : decode zb_MReader_isWord 50 = .ok (.invokevirtual 30, 3) := by decide +kernel
theorem zd_MReader_isWord_53 : decode zb_MReader_isWord 53 = .ok (.aload_n 1, 1) := by decide +kernel
theorem zd_MReader_isWord_54 : decode zb_MReader_isWord 54 = .ok (.iload_n 2, 1) := by decide +kernel
theorem zd_MReader_isWord_55 : decode zb_MReader_isWord 55 = .ok (.invokevirtual 47, 3) := by decide +kernel
theorem zd_MReader_isWord_58 : decode zb_MReader_isWord 58 = .ok (.if_icmp .eq 5, 3) := by decide +kernel
theorem zd_MReader_isWord_61 : decode zb_MReader_isWord 61 = .ok (.iconst 0, 1) := by decide +kernel
theorem zd_MReader_isWord_62 : decode zb_MReader_isWord 62 = .ok (.ireturn, 1) := by decide +kernel
theorem zd_MReader_isWord_63 : decode zb_MReader_isWord 63 = .ok (.iinc 2 1, 3) := by decide +kernel
theorem zd_MReader_isWord_66 : decode zb_MReader_isWord 66 = .ok (.goto (-33), 3) := by decide +kernel
theorem zd_MReader_isWord_69 : decode zb_MReader_isWord 69 = .ok (.iconst 1, 1) := by decide +kernel
theorem zd_MReader_isWord_70 : decode zb_MReader_isWord 70 = .ok (.ireturn, 1) := by decide +kernel
theorem zw_1799 : (Jvm.Cond.methodLink "OrreryBoxModel$Reader" (42 : Nat) ({ cls := "java/lang/String", name := "length", desc := "()I" } : Jvm.MethodName)) ∈ gw := gw_t 1799 (by decide +kernel) rfl
theorem zs_MReader_42 : zwV "OrreryBoxModel$Reader" 42 "java/lang/String" zy_JString_length zb_JString_length 1 (some .int) := ⟨zw_1799, zw_951, zw_952, zw_22, zc_JString_length⟩
theorem zw_1800 : (Jvm.Cond.methodLink "OrreryBoxModel$Reader" (47 : Nat) ({ cls := "java/lang/String", name := "charAt", desc := "(I)C" } : Jvm.MethodName)) ∈ gw := gw_t 1800 (by decide +kernel) rfl
theorem zs_MReader_47 : zwV "OrreryBoxModel$Reader" 47 "java/lang/String" zy_JString_charAt zb_JString_charAt 2 (some .char) := ⟨zw_1800, zw_961, zw_962, zw_22, zc_JString_charAt⟩
def L_MReader_isWord_33 (sh : zSh) (fuel : Nat) (v0 : Nat) (v1 : Nat) (v2 : Int32) (mm : zMem) : Option (Nat × Int32 × Nat × Nat × Int32 × zMem) := match fuel with
  | 0 => none
  | fu + 1 => (if v1 < 67 then (if (ztxn v1) ≤ v2 then some (1, (0 : Int32), v0, v1, v2, mm) else zoS (sh v0) 14 (fun le16 => zoS (sh v0) 14 (fun le18 => Option.bind (F_MReader_byteAt sh mm v0 (((mm.1 v0 3) + 1) + v2)) (fun p19 => (if v1 < 67 ∧ ¬ (v2 : Int32) < 0 ∧ (v2 : Int32) < ztxn v1 then (if p19.1 = (ztxc v1 (v2 : Int32).toNatClampNeg) then L_MReader_isWord_33 sh fu v0 v1 (v2 + 1) (p19.2) else some (0, 0, (0 : Nat), (0 : Nat), (0 : Int32), p19.2)) else none))))) else none)
set_option maxHeartbeats 4000000 in
set_option maxRecDepth 100000 in
theorem lp_MReader_isWord_33 {p : Program} {l : Launch} {e : Env} {s : State} {m : MethodId} {args : Array Value} {below : List Frame} {meth : Method} {c : Code} {D : va_G} {tA : Nat → ClassId} {b n : Nat} {post : Option Value → zV → Nat → Prop} {sh : zSh} (F : zF p s m args meth c zb_MReader_isWord 3 "OrreryBoxModel$Reader" D tA b) (hr : meth.sig.returnType = (some .boolean)) : ∀ (fuel : Nat) (v0 : Nat) (v1 : Nat) (v2 : Int32) (mm : zMem) (r : Nat × Int32 × Nat × Nat × Int32 × zMem), L_MReader_isWord_33 sh fuel v0 v1 v2 mm = some r → (r.1 = 1 → Z p l e { frames := 4, cells := 0, slots := 0, locals := 85 } s m args below meth c D b 3 (MQ below (zQ D b post) args s 0 0 (fun q => b ≤ q)) (zW tA b sh r.2.2.2.2.2) n 0 0 69 [(0, .ref (b + (r.2.2.1))), (1, .ref (D.2 1000 (r.2.2.2.1))), (2, .int (r.2.2.2.2.1))] []) → (r.1 = 0 → post (some (.int r.2.1)) (zW tA b sh r.2.2.2.2.2) n) → Z p l e { frames := 4, cells := 0, slots := 0, locals := 85 } s m args below meth c D b 3 (MQ below (zQ D b post) args s 0 0 (fun q => b ≤ q)) (zW tA b sh mm) n 0 0 33 [(0, .ref (b + v0)), (1, .ref (D.2 1000 v1)), (2, .int v2)] [] := by
  intro fuel
  induction fuel with
  | zero =>
    intro v0 v1 v2 mm r h
    cases h
  | succ fu ih =>
    intro v0 v1 v2 mm r h hx0 hp
    rw [L_MReader_isWord_33] at h
    refine zr_iload_n F zd_MReader_isWord_33 rfl ?_
    refine zr_aload_n F zd_MReader_isWord_34 rfl ?_
    obtain ⟨hg13, h⟩ := zoT_s h
    refine zr_callT F hg13 (c_JString_length l D tA b _ _ v1 hg13) zd_MReader_isWord_35 zs_MReader_42 rfl zq_JString_length rfl rfl ⟨(Nat.le_of_ble_eq_true rfl), (Nat.le_of_ble_eq_true rfl)⟩ (Nat.le_of_ble_eq_true rfl) ⟨(Nat.le_of_ble_eq_true rfl), (Nat.le_of_ble_eq_true rfl)⟩ ?_
    refine zr_icmp_ge F 69 zd_MReader_isWord_38 (by decide) (fun hb14 => ?_) (fun hb14 => ?_)
    ·
      rw [if_pos hb14] at h
      obtain rfl := Option.some.inj h
      refine zr_loc (L' := [(0, .ref (b + v0)), (1, .ref (D.2 1000 v1)), (2, .int v2)]) ⟨rfl, rfl, rfl, trivial⟩ ?_
      exact hx0 rfl
    ·
      rw [if_neg hb14] at h
      refine zr_pcn 41 rfl ?_
      refine zr_aload_n F zd_MReader_isWord_41 rfl ?_
      refine zr_aload_n F zd_MReader_isWord_42 rfl ?_
      obtain ⟨le16, hs15, h⟩ := zoS_s h
      refine zr_get F 14 3 zd_MReader_isWord_43 (zW_o hs15 (by decide)) rfl (by decide) zw_1507 rfl (by rfl) ?_
      refine zr_iconstv (v := 1) F zd_MReader_isWord_46 (by decide) ?_
      refine zr_iadd F zd_MReader_isWord_47 ?_
      refine zr_iload_n F zd_MReader_isWord_48 rfl ?_
      refine zr_iadd F zd_MReader_isWord_49 ?_
      obtain ⟨le18, hs17, h⟩ := zoS_s h
      obtain ⟨p19, ep19, h⟩ := zoB_s h
      refine zr_callV1 F (k_MReader_byteAt l D tA b sh _ ep19) zd_MReader_isWord_50 (zW_o hs17 (by decide)) rfl zs_MReader_30 rfl zq_MReader_byteAt rfl rfl ⟨(Nat.le_of_ble_eq_true rfl), (Nat.le_of_ble_eq_true rfl)⟩ (Nat.le_of_ble_eq_true rfl) ⟨(Nat.le_of_ble_eq_true rfl), (Nat.le_of_ble_eq_true rfl)⟩ ?_
      refine zr_pcn 53 rfl ?_
      refine zr_aload_n F zd_MReader_isWord_53 rfl ?_
      refine zr_iload_n F zd_MReader_isWord_54 rfl ?_
      obtain ⟨hg20, h⟩ := zoT_s h
      refine zr_callT F hg20.1 (c_JString_charAt l D tA b _ _ v1 v2 hg20.1 hg20.2.1 hg20.2.2) zd_MReader_isWord_55 zs_MReader_47 rfl zq_JString_charAt rfl rfl ⟨(Nat.le_of_ble_eq_true rfl), (Nat.le_of_ble_eq_true rfl)⟩ (Nat.le_of_ble_eq_true rfl) ⟨(Nat.le_of_ble_eq_true rfl), (Nat.le_of_ble_eq_true rfl)⟩ ?_
      refine zr_icmp_eq F 63 zd_MReader_isWord_58 (by decide) (fun hb21 => ?_) (fun hb21 => ?_)
      ·
        rw [if_pos hb21] at h
        refine zr_iinc (v := (v2 + 1)) F zd_MReader_isWord_63 rfl rfl (by decide) ?_
        refine zr_goto F 33 zd_MReader_isWord_66 (by decide) ?_
        refine zr_loc (L' := [(0, .ref (b + v0)), (1, .ref (D.2 1000 v1)), (2, .int (v2 + 1))]) ⟨rfl, rfl, rfl, trivial⟩ ?_
        exact ih _ _ _ _ _ h hx0 hp
      ·
        rw [if_neg hb21] at h
        refine zr_iconstv (v := 0) F zd_MReader_isWord_61 (by decide) ?_
        obtain rfl := Option.some.inj h
        exact zr_zret F hr rfl zd_MReader_isWord_62 (Nat.le_of_ble_eq_true rfl) (Nat.le_of_ble_eq_true rfl) (hp rfl)
def F_MReader_isWord (sh : zSh) (mm : zMem) (o : Nat) (x0_ : Nat) : Option (Int32 × zMem) := zoS (sh o) 14 (fun le2 => Option.bind (F_MReader_next sh mm o) (fun p3 => (if p3.1 = 34 then zoS (sh o) 14 (fun le6 => (if x0_ < 67 then zoS (sh o) 14 (fun le9 => zoL ((((p3.2).1 o 3) + 1) + (ztxn x0_)) (fun x10 => Option.bind (F_MReader_byteAt sh (p3.2) o x10) (fun p11 => (if p11.1 = 34 then Option.bind (L_MReader_isWord_33 sh zfuel o x0_ 0 (p11.2)) (fun q22 => (if q22.1 = 1 then some (1, q22.2.2.2.2.2) else some (q22.2.1, q22.2.2.2.2.2))) else some (0, p11.2))))) else none)) else some (0, p3.2))))
set_option maxHeartbeats 4000000 in
set_option maxRecDepth 100000 in
theorem k_MReader_isWord (l : Launch) (D : va_G) (tA : Nat → ClassId) (b : Nat) (sh : zSh) (n : Nat) {mm : zMem} {o : Nat} {x0_ : Nat} {r : (Int32 × zMem)} (h : F_MReader_isWord sh mm o x0_ = some r) : zM l D tA b zy_MReader_isWord zb_MReader_isWord 3 (some .boolean) 4 85 0 0 [.ref (b + o), .ref (D.2 1000 x0_)] (zW tA b sh mm) n (zE (some (.int (r.1))) (zW tA b sh r.2) n) := by
  unfold F_MReader_isWord at h
  refine zM_of (own := "OrreryBoxModel$Reader") (plainFor_of_name (by decide)) rfl (Nat.le_of_ble_eq_true rfl) (fun p e s m below meth c F hr hin hH => ?_)
  refine zr_aload_n F zd_MReader_isWord_0 rfl ?_
  obtain ⟨le2, hs1, h⟩ := zoS_s h
  obtain ⟨p3, ep3, h⟩ := zoB_s h
  refine zr_callV1 F (k_MReader_next l D tA b sh _ ep3) zd_MReader_isWord_1 (zW_o hs1 (by decide)) rfl zs_MReader_34 rfl zq_MReader_next rfl rfl ⟨(Nat.le_of_ble_eq_true rfl), (Nat.le_of_ble_eq_true rfl)⟩ (Nat.le_of_ble_eq_true rfl) ⟨(Nat.le_of_ble_eq_true rfl), (Nat.le_of_ble_eq_true rfl)⟩ ?_
  refine zr_bipushv (v := 34) F zd_MReader_isWord_4 (by decide) ?_
  refine zr_icmp_ne F 29 zd_MReader_isWord_6 (by decide) (fun hb4 => ?_) (fun hb4 => ?_)
  ·
    rw [if_neg hb4] at h
    refine zr_iconstv (v := 0) F zd_MReader_isWord_29 (by decide) ?_
    obtain rfl := Option.some.inj h
    exact zr_zret F hr rfl zd_MReader_isWord_30 (Nat.le_of_ble_eq_true rfl) (Nat.le_of_ble_eq_true rfl) ⟨rfl, rfl, rfl⟩
  ·
    rw [if_pos hb4] at h
    refine zr_aload_n F zd_MReader_isWord_9 rfl ?_
    refine zr_pcn 10 rfl ?_
    refine zr_aload_n F zd_MReader_isWord_10 rfl ?_
    obtain ⟨le6, hs5, h⟩ := zoS_s h
    refine zr_get F 14 3 zd_MReader_isWord_11 (zW_o hs5 (by decide)) rfl (by decide) zw_1507 rfl (by rfl) ?_
    refine zr_iconstv (v := 1) F zd_MReader_isWord_14 (by decide) ?_
    refine zr_iadd F zd_MReader_isWord_15 ?_
    refine zr_aload_n F zd_MReader_isWord_16 rfl ?_
    obtain ⟨hg7, h⟩ := zoT_s h
    refine zr_callT F hg7 (c_JString_length l D tA b _ _ x0_ hg7) zd_MReader_isWord_17 zs_MReader_42 rfl zq_JString_length rfl rfl ⟨(Nat.le_of_ble_eq_true rfl), (Nat.le_of_ble_eq_true rfl)⟩ (Nat.le_of_ble_eq_true rfl) ⟨(Nat.le_of_ble_eq_true rfl), (Nat.le_of_ble_eq_true rfl)⟩ ?_
    refine zr_iadd F zd_MReader_isWord_20 ?_
    obtain ⟨le9, hs8, h⟩ := zoS_s h
    obtain ⟨x10, ex10, h⟩ := zoL_s h
    rw [← ex10]
    obtain ⟨p11, ep11, h⟩ := zoB_s h
    refine zr_callV1 F (k_MReader_byteAt l D tA b sh _ ep11) zd_MReader_isWord_21 (zW_o hs8 (by decide)) rfl zs_MReader_30 rfl zq_MReader_byteAt rfl rfl ⟨(Nat.le_of_ble_eq_true rfl), (Nat.le_of_ble_eq_true rfl)⟩ (Nat.le_of_ble_eq_true rfl) ⟨(Nat.le_of_ble_eq_true rfl), (Nat.le_of_ble_eq_true rfl)⟩ ?_
    refine zr_pcn 24 rfl ?_
    refine zr_bipushv (v := 34) F zd_MReader_isWord_24 (by decide) ?_
    refine zr_icmp_eq F 31 zd_MReader_isWord_26 (by decide) (fun hb12 => ?_) (fun hb12 => ?_)
    ·
      rw [if_pos hb12] at h
      refine zr_iconstv (v := 0) F zd_MReader_isWord_31 (by decide) ?_
      refine zr_istore_n F zd_MReader_isWord_32 (by decide) ?_
      obtain ⟨q22, eq22, h⟩ := zoB_s h
      refine zr_loc (L' := [(0, .ref (b + o)), (1, .ref (D.2 1000 x0_)), (2, .int 0)]) ⟨rfl, rfl, rfl, trivial⟩ ?_
      refine lp_MReader_isWord_33 F hr _ _ _ _ _ _ eq22 ?_ ?_
      ·
        intro ec
        rw [if_pos ec] at h
        refine zr_pcn 69 rfl ?_
        refine zr_iconstv (v := 1) F zd_MReader_isWord_69 (by decide) ?_
        obtain rfl := Option.some.inj h
        exact zr_zret F hr rfl zd_MReader_isWord_70 (Nat.le_of_ble_eq_true rfl) (Nat.le_of_ble_eq_true rfl) ⟨rfl, rfl, rfl⟩
      ·
        intro ec
        rw [if_neg (by rw [ec]; decide)] at h
        obtain rfl := Option.some.inj h
        exact ⟨rfl, rfl, rfl⟩
    ·
      rw [if_neg hb12] at h
      refine zr_iconstv (v := 0) F zd_MReader_isWord_29 (by decide) ?_
      obtain rfl := Option.some.inj h
      exact zr_zret F hr rfl zd_MReader_isWord_30 (Nat.le_of_ble_eq_true rfl) (Nat.le_of_ble_eq_true rfl) ⟨rfl, rfl, rfl⟩
abbrev zb_MReader_name : ByteArray := prog_17_method_7_code
def zy_MReader_name : MethodName := ⟨"OrreryBoxModel$Reader", "name", "(Ljava/lang/String;)V"⟩
theorem zc_MReader_name : Cond.code zy_MReader_name zb_MReader_name 2 none ∈ gw := gw_t 1804 (by decide +kernel) rfl
theorem zq_MReader_name : zy_MReader_name.cls ≠ "java/lang/invoke/MethodHandle" ∧ zy_MReader_name.cls ≠ "java/lang/invoke/VarHandle" ∧ (parseMethodDescriptor zy_MReader_name.desc).map (fun d => d.parameters.length) = some 1 := by decide +kernel
theorem zd_MReader_name_0 : decode zb_MReader_name 0 = .ok (.aload_n 0, 1) := by decide +kernel
theorem zd_MReader_name_1 : decode zb_MReader_name 1 = .ok (.getfield 17, 3) := by decide +kernel
theorem zd_MReader_name_4 : decode zb_MReader_name 4 = .ok (.ifCond .eq 4, 3) := by decide +kernel
theorem zd_MReader_name_7 : decode zb_MReader_name 7 = .ok (.return_, 1) := by decide +kernel
theorem zd_MReader_name_8 : decode zb_MReader_name 8 = .ok (.aload_n 0, 1) := by decide +kernel
theorem zd_MReader_name_9 : decode zb_MReader_name 9 = .ok (.aload_n 1, 1) := by decide +kernel
theorem zd_MReader_name_10 : decode zb_MReader_name 10 = .ok (.invokevirtual 51, 3) := by decide +kernel
theorem zd_MReader_name_13 : decode zb_MReader_name 13 = .ok (.ifCond .ne 13, 3) := by decide +kernel
theorem zd_MReader_name_16 : decode zb_MReader_name 16 = .ok (.aload_n 0, 1) := by decide +kernel
theorem zd_MReader_name_17 : decode zb_MReader_name 17 = .ok (.iconst 1, 1) := by decide +kernel
theorem zd_MReader_name_18 : decode zb_MReader_name 18 = .ok (.aload_n 0, 1) := by decide +kernel
theorem zd_MReader_name_19 : decode zb_MReader_name 19 = .ok (.getfield 27, 3) := by decide +kernel
theorem zd_MReader_name_22 : decode zb_MReader_name 22 = .ok (.invokevirtual 38, 3) := by decide +kernel
theorem zd_MReader_name_25 : decode zb_MReader_name 25 = .ok (.return_, 1) := by decide +kernel
theorem zd_MReader_name_26 : decode zb_MReader_name 26 = .ok (.aload_n 0, 1) := by decide +kernel
theorem zd_MReader_name_27 : decode zb_MReader_name 27 = .ok (.dup, 1) := by decide +kernel
theorem zd_MReader_name_28 : decode zb_MReader_name 28 = .ok (.getfield 27, 3) := by decide +kernel
theorem zd_MReader_name_31 : decode zb_MReader_name 31 = .ok (.aload_n 1, 1) := by decide +kernel
theorem zd_MReader_name_32 : decode zb_MReader_name 32 = .ok (.invokevirtual 42, 3) := by decide +kernel
theorem zd_MReader_name_35 : decode zb_MReader_name 35 = .ok (.iconst 2, 1) := by decide +kernel
theorem zd_MReader_name_36 : decode zb_MReader_name 36 = .ok (.iadd, 1) := by decide +kernel
theorem zd_MReader_name_37 : decode zb_MReader_name 37 = .ok (.iadd, 1) := by decide +kernel
theorem zd_MReader_name_38 : decode zb_MReader_name 38 = .ok (.putfield 27, 3) := by decide +kernel
theorem zd_MReader_name_41 : decode zb_MReader_name 41 = .ok (.aload_n 0, 1) := by decide +kernel
theorem zd_MReader_name_42 : decode zb_MReader_name 42 = .ok (.bipush 58, 2) := by decide +kernel
theorem zd_MReader_name_44 : decode zb_MReader_name 44 = .ok (.invokevirtual 55, 3) := by decide +kernel
theorem zd_MReader_name_47 : decode zb_MReader_name 47 = .ok (.return_, 1) := by decide +kernel
theorem zw_1795 : (Jvm.Cond.methodLink "OrreryBoxModel$Reader" (51 : Nat) ({ cls := "OrreryBoxModel$Reader", name := "isWord", desc := "(Ljava/lang/String;)Z" } : Jvm.MethodName)) ∈ gw := gw_t 1795 (by decide +kernel) rfl
theorem zw_1797 : (Jvm.Cond.instanceMethod ({ cls := "OrreryBoxModel$Reader", name := "isWord", desc := "(Ljava/lang/String;)Z" } : Jvm.MethodName)) ∈ gw := gw_t 1797 (by decide +kernel) rfl
theorem zv_73 : (Jvm.Cond.selects "OrreryBoxModel$Reader" (⟨"OrreryBoxModel$Reader", "isWord", "(Ljava/lang/String;)Z"⟩ : MethodName) ⟨"OrreryBoxModel$Reader", "isWord", "(Ljava/lang/String;)Z"⟩) ∈ gw := gw_s 73 (by decide +kernel) rfl
theorem zs_MReader_51 : zwV "OrreryBoxModel$Reader" 51 "OrreryBoxModel$Reader" zy_MReader_isWord zb_MReader_isWord 3 (some .boolean) := ⟨zw_1795, zw_1797, zv_73, zw_15, zc_MReader_isWord⟩
def F_MReader_name (sh : zSh) (mm : zMem) (o : Nat) (x0_ : Nat) : Option zMem := zoS (sh o) 14 (fun le2 => (if (mm.1 o 4) = 0 then zoS (sh o) 14 (fun le5 => Option.bind (F_MReader_isWord sh mm o x0_) (fun p6 => (if p6.1 = 0 then zoS (sh o) 14 (fun le19 => zoS (sh o) 14 (fun le21 => Option.bind (F_MReader_fail sh (p6.2) o 1 ((p6.2).1 o 3)) (fun p22 => some p22))) else zoS (sh o) 14 (fun le9 => (if x0_ < 67 then zoL (((p6.2).1 o 3) + ((ztxn x0_) + 2)) (fun x11 => zoS (sh o) 14 (fun le13 => zoL (mI (p6.2) o 3 x11) (fun mm14 => zoS (sh o) 14 (fun le16 => Option.bind (F_MReader_sign sh mm14 o 58) (fun p17 => some p17))))) else none))))) else some mm))
set_option maxHeartbeats 4000000 in
set_option maxRecDepth 100000 in
theorem k_MReader_name (l : Launch) (D : va_G) (tA : Nat → ClassId) (b : Nat) (sh : zSh) (n : Nat) {mm : zMem} {o : Nat} {x0_ : Nat} {r : zMem} (h : F_MReader_name sh mm o x0_ = some r) : zM l D tA b zy_MReader_name zb_MReader_name 2 none 5 107 0 0 [.ref (b + o), .ref (D.2 1000 x0_)] (zW tA b sh mm) n (zE none (zW tA b sh r) n) := by
  unfold F_MReader_name at h
  refine zM_of (own := "OrreryBoxModel$Reader") (plainFor_of_name (by decide)) rfl (Nat.le_of_ble_eq_true rfl) (fun p e s m below meth c F hr hin hH => ?_)
  refine zr_aload_n F zd_MReader_name_0 rfl ?_
  obtain ⟨le2, hs1, h⟩ := zoS_s h
  refine zr_get F 14 4 zd_MReader_name_1 (zW_o hs1 (by decide)) rfl (by decide) zw_1508 rfl (by rfl) ?_
  refine zr_if_eq F 8 zd_MReader_name_4 (by decide) (fun hb3 => ?_) (fun hb3 => ?_)
  ·
    rw [if_pos hb3] at h
    refine zr_aload_n F zd_MReader_name_8 rfl ?_
    refine zr_aload_n F zd_MReader_name_9 rfl ?_
    obtain ⟨le5, hs4, h⟩ := zoS_s h
    obtain ⟨p6, ep6, h⟩ := zoB_s h
    refine zr_callV1 F (k_MReader_isWord l D tA b sh _ ep6) zd_MReader_name_10 (zW_o hs4 (by decide)) rfl zs_MReader_51 rfl zq_MReader_isWord rfl rfl ⟨(Nat.le_of_ble_eq_true rfl), (Nat.le_of_ble_eq_true rfl)⟩ (Nat.le_of_ble_eq_true rfl) ⟨(Nat.le_of_ble_eq_true rfl), (Nat.le_of_ble_eq_true rfl)⟩ ?_
    refine zr_if_ne F 26 zd_MReader_name_13 (by decide) (fun hb7 => ?_) (fun hb7 => ?_)
    ·
      rw [if_neg hb7] at h
      refine zr_pcn 26 rfl ?_
      refine zr_aload_n F zd_MReader_name_26 rfl ?_
      refine zr_dup F zd_MReader_name_27 rfl ?_
      obtain ⟨le9, hs8, h⟩ := zoS_s h
      refine zr_get F 14 3 zd_MReader_name_28 (zW_o hs8 (by decide)) rfl (by decide) zw_1507 rfl (by rfl) ?_
      refine zr_aload_n F zd_MReader_name_31 rfl ?_
      obtain ⟨hg10, h⟩ := zoT_s h
      refine zr_callT F hg10 (c_JString_length l D tA b _ _ x0_ hg10) zd_MReader_name_32 zs_MReader_42 rfl zq_JString_length rfl rfl ⟨(Nat.le_of_ble_eq_true rfl), (Nat.le_of_ble_eq_true rfl)⟩ (Nat.le_of_ble_eq_true rfl) ⟨(Nat.le_of_ble_eq_true rfl), (Nat.le_of_ble_eq_true rfl)⟩ ?_
      refine zr_iconstv (v := 2) F zd_MReader_name_35 (by decide) ?_
      refine zr_iadd F zd_MReader_name_36 ?_
      refine zr_iadd F zd_MReader_name_37 ?_
      refine zr_pcn 38 rfl ?_
      obtain ⟨x11, ex11, h⟩ := zoL_s h
      rw [← ex11]
      obtain ⟨le13, hs12, h⟩ := zoS_s h
      refine zr_put F 14 3 zd_MReader_name_38 (zW_o hs12 (by decide)) rfl (by decide) zw_1507 rfl rfl rfl rfl (by exact (Nat.le_of_ble_eq_true rfl)) ?_
      obtain ⟨mm14, emm14, h⟩ := zoL_s h
      refine zr_norm (zW tA b sh mm14) _ (by rw [emm14]; exact zW_pI (v := x11) hs12 (by decide) (zf_I_14_3 b _ _ _)) rfl ?_
      refine zr_aload_n F zd_MReader_name_41 rfl ?_
      refine zr_bipushv (v := 58) F zd_MReader_name_42 (by decide) ?_
      obtain ⟨le16, hs15, h⟩ := zoS_s h
      obtain ⟨p17, ep17, h⟩ := zoB_s h
      refine zr_callV0 F (k_MReader_sign l D tA b sh _ ep17) zd_MReader_name_44 (zW_o hs15 (by decide)) rfl zs_MReader_55 rfl zq_MReader_sign rfl rfl ⟨(Nat.le_of_ble_eq_true rfl), (Nat.le_of_ble_eq_true rfl)⟩ (Nat.le_of_ble_eq_true rfl) ⟨(Nat.le_of_ble_eq_true rfl), (Nat.le_of_ble_eq_true rfl)⟩ ?_
      obtain rfl := Option.some.inj h
      exact zr_vret F hr zd_MReader_name_47 (Nat.le_of_ble_eq_true rfl) (Nat.le_of_ble_eq_true rfl) ⟨rfl, rfl, rfl⟩
    ·
      rw [if_pos hb7] at h
      refine zr_aload_n F zd_MReader_name_16 rfl ?_
      refine zr_iconstv (v := 1) F zd_MReader_name_17 (by decide) ?_
      refine zr_aload_n F zd_MReader_name_18 rfl ?_
      refine zr_pcn 19 rfl ?_
      obtain ⟨le19, hs18, h⟩ := zoS_s h
      refine zr_get F 14 3 zd_MReader_name_19 (zW_o hs18 (by decide)) rfl (by decide) zw_1507 rfl (by rfl) ?_
      obtain ⟨le21, hs20, h⟩ := zoS_s h
      obtain ⟨p22, ep22, h⟩ := zoB_s h
      refine zr_callV0 F (k_MReader_fail l D tA b sh _ ep22) zd_MReader_name_22 (zW_o hs20 (by decide)) rfl zs_MReader_38 rfl zq_MReader_fail rfl rfl ⟨(Nat.le_of_ble_eq_true rfl), (Nat.le_of_ble_eq_true rfl)⟩ (Nat.le_of_ble_eq_true rfl) ⟨(Nat.le_of_ble_eq_true rfl), (Nat.le_of_ble_eq_true rfl)⟩ ?_
      obtain rfl := Option.some.inj h
      exact zr_vret F hr zd_MReader_name_25 (Nat.le_of_ble_eq_true rfl) (Nat.le_of_ble_eq_true rfl) ⟨rfl, rfl, rfl⟩
  ·
    rw [if_neg hb3] at h
    obtain rfl := Option.some.inj h
    exact zr_vret F hr zd_MReader_name_7 (Nat.le_of_ble_eq_true rfl) (Nat.le_of_ble_eq_true rfl) ⟨rfl, rfl, rfl⟩
abbrev zb_MReader_numberNext : ByteArray := prog_17_method_9_code
def zy_MReader_numberNext : MethodName := ⟨"OrreryBoxModel$Reader", "numberNext", "()Z"⟩
theorem zc_MReader_numberNext : Cond.code zy_MReader_numberNext zb_MReader_numberNext 2 (some .boolean) ∈ gw := gw_t 1825 (by decide +kernel) rfl
theorem zq_MReader_numberNext : zy_MReader_numberNext.cls ≠ "java/lang/invoke/MethodHandle" ∧ zy_MReader_numberNext.cls ≠ "java/lang/invoke/VarHandle" ∧ (parseMethodDescriptor zy_MReader_numberNext.desc).map (fun d => d.parameters.length) = some 0 := by decide +kernel
theorem zd_MReader_numberNext_0 : decode zb_MReader_numberNext 0 = .ok (.aload_n 0, 1) := by decide +kernel
theorem zd_MReader_numberNext_1 : decode zb_MReader_numberNext 1 = .ok (.invokevirtual 34, 3) := by decide +kernel
theorem zd_MReader_numberNext_4 : decode zb_MReader_numberNext 4 = .ok (.istore_n 1, 1) := by decide +kernel
theorem zd_MReader_numberNext_5 : decode zb_MReader_numberNext 5 = .ok (.iload_n 1, 1) := by decide +kernel
theorem zd_MReader_numberNext_6 : decode zb_MReader_numberNext 6 = .ok (.invokestatic 59, 3) := by decide +kernel
theorem zd_MReader_numberNext_9 : decode zb_MReader_numberNext 9 = .ok (.ifCond .ne 25, 3) := by decide +kernel
theorem zd_MReader_numberNext_12 : decode zb_MReader_numberNext 12 = .ok (.iload_n 1, 1) := by decide +kernel
theorem zd_MReader_numberNext_13 : decode zb_MReader_numberNext 13 = .ok (.bipush 45, 2) := by decide +kernel
theorem zd_MReader_numberNext_15 : decode zb_MReader_numberNext 15 = .ok (.if_icmp .ne 23, 3) := by decide +kernel
theorem zd_MReader_numberNext_18 : decode zb_MReader_numberNext 18 = .ok (.aload_n 0, 1) := by decide +kernel
theorem zd_MReader_numberNext_19 : decode zb_MReader_numberNext 19 = .ok (.aload_n 0, 1) := by decide +kernel
theorem zd_MReader_numberNext_20 : decode zb_MReader_numberNext 20 = .ok (.getfield 27, 3) := by decide +kernel
theorem zd_MReader_numberNext_23 : decode zb_MReader_numberNext 23 = .ok (.iconst 1, 1) := by decide +kernel
theorem zd_MReader_numberNext_24 : decode zb_MReader_numberNext 24 = .ok (.iadd, 1) := by decide +kernel
theorem zd_MReader_numberNext_25 : decode zb_MReader_numberNext 25 = .ok (.invokevirtual 30, 3) := by decide +kernel
theorem zd_MReader_numberNext_28 : decode zb_MReader_numberNext 28 = .ok (.invokestatic 59, 3) := by decide +kernel
theorem zd_MReader_numberNext_31 : decode zb_MReader_numberNext 31 = .ok (.ifCond .eq 7, 3) := by decide +kernel
theorem zd_MReader_numberNext_34 : decode zb_MReader_numberNext 34 = .ok (.iconst 1, 1) := by decide +kernel
theorem zd_MReader_numberNext_35 : decode zb_MReader_numberNext 35 = .ok (.goto 4, 3) := by decide +kernel
theorem zd_MReader_numberNext_38 : decode zb_MReader_numberNext 38 = .ok (.iconst 0, 1) := by decide +kernel
theorem zd_MReader_numberNext_39 : decode zb_MReader_numberNext 39 = .ok (.ireturn, 1) := by decide +kernel
theorem zw_1826 : (Jvm.Cond.methodLink "OrreryBoxModel$Reader" (59 : Nat) ({ cls := "OrreryBoxModel$Reader", name := "digit", desc := "(I)Z" } : Jvm.MethodName)) ∈ gw := gw_t 1826 (by decide +kernel) rfl
theorem zw_1827 : (Jvm.Cond.static ({ cls := "OrreryBoxModel$Reader", name := "digit", desc := "(I)Z" } : Jvm.MethodName)) ∈ gw := gw_t 1827 (by decide +kernel) rfl
theorem zs_MReader_59 : zwS "OrreryBoxModel$Reader" 59 zy_MReader_digit zb_MReader_digit 1 (some .boolean) := ⟨zw_1826, zw_1827, zw_15, zc_MReader_digit⟩
def F_MReader_numberNext (sh : zSh) (mm : zMem) (o : Nat) : Option (Int32 × zMem) := zoS (sh o) 14 (fun le2 => Option.bind (F_MReader_next sh mm o) (fun p3 => (if (sp_MReader_digit (p3.1)) = 0 then (if p3.1 = 45 then zoS (sh o) 14 (fun le8 => zoS (sh o) 14 (fun le10 => Option.bind (F_MReader_byteAt sh (p3.2) o (((p3.2).1 o 3) + 1)) (fun p11 => (if (sp_MReader_digit (p11.1)) = 0 then some (0, p11.2) else some (1, p11.2))))) else some (0, p3.2)) else some (1, p3.2))))
set_option maxHeartbeats 4000000 in
set_option maxRecDepth 100000 in
theorem k_MReader_numberNext (l : Launch) (D : va_G) (tA : Nat → ClassId) (b : Nat) (sh : zSh) (n : Nat) {mm : zMem} {o : Nat} {r : (Int32 × zMem)} (h : F_MReader_numberNext sh mm o = some r) : zM l D tA b zy_MReader_numberNext zb_MReader_numberNext 2 (some .boolean) 2 41 0 0 [.ref (b + o)] (zW tA b sh mm) n (zE (some (.int (r.1))) (zW tA b sh r.2) n) := by
  unfold F_MReader_numberNext at h
  refine zM_of (own := "OrreryBoxModel$Reader") (plainFor_of_name (by decide)) rfl (Nat.le_of_ble_eq_true rfl) (fun p e s m below meth c F hr hin hH => ?_)
  refine zr_aload_n F zd_MReader_numberNext_0 rfl ?_
  obtain ⟨le2, hs1, h⟩ := zoS_s h
  obtain ⟨p3, ep3, h⟩ := zoB_s h
  refine zr_callV1 F (k_MReader_next l D tA b sh _ ep3) zd_MReader_numberNext_1 (zW_o hs1 (by decide)) rfl zs_MReader_34 rfl zq_MReader_next rfl rfl ⟨(Nat.le_of_ble_eq_true rfl), (Nat.le_of_ble_eq_true rfl)⟩ (Nat.le_of_ble_eq_true rfl) ⟨(Nat.le_of_ble_eq_true rfl), (Nat.le_of_ble_eq_true rfl)⟩ ?_
  refine zr_istore_n F zd_MReader_numberNext_4 (by decide) ?_
  refine zr_iload_n F zd_MReader_numberNext_5 rfl ?_
  refine zr_callS1 F (c_MReader_digit l D tA b _ _ (p3.1)) zd_MReader_numberNext_6 zs_MReader_59 zq_MReader_digit rfl rfl ⟨(Nat.le_of_ble_eq_true rfl), (Nat.le_of_ble_eq_true rfl)⟩ (Nat.le_of_ble_eq_true rfl) ⟨(Nat.le_of_ble_eq_true rfl), (Nat.le_of_ble_eq_true rfl)⟩ ?_
  refine zr_if_ne F 34 zd_MReader_numberNext_9 (by decide) (fun hb5 => ?_) (fun hb5 => ?_)
  ·
    rw [if_neg hb5] at h
    refine zr_iconstv (v := 1) F zd_MReader_numberNext_34 (by decide) ?_
    refine zr_pcn 35 rfl ?_
    refine zr_goto F 39 zd_MReader_numberNext_35 (by decide) ?_
    obtain rfl := Option.some.inj h
    exact zr_zret F hr rfl zd_MReader_numberNext_39 (Nat.le_of_ble_eq_true rfl) (Nat.le_of_ble_eq_true rfl) ⟨rfl, rfl, rfl⟩
  ·
    rw [if_pos hb5] at h
    refine zr_iload_n F zd_MReader_numberNext_12 rfl ?_
    refine zr_bipushv (v := 45) F zd_MReader_numberNext_13 (by decide) ?_
    refine zr_icmp_ne F 38 zd_MReader_numberNext_15 (by decide) (fun hb6 => ?_) (fun hb6 => ?_)
    ·
      rw [if_neg hb6] at h
      refine zr_iconstv (v := 0) F zd_MReader_numberNext_38 (by decide) ?_
      obtain rfl := Option.some.inj h
      exact zr_zret F hr rfl zd_MReader_numberNext_39 (Nat.le_of_ble_eq_true rfl) (Nat.le_of_ble_eq_true rfl) ⟨rfl, rfl, rfl⟩
    ·
      rw [if_pos hb6] at h
      refine zr_aload_n F zd_MReader_numberNext_18 rfl ?_
      refine zr_pcn 19 rfl ?_
      refine zr_aload_n F zd_MReader_numberNext_19 rfl ?_
      obtain ⟨le8, hs7, h⟩ := zoS_s h
      refine zr_get F 14 3 zd_MReader_numberNext_20 (zW_o hs7 (by decide)) rfl (by decide) zw_1507 rfl (by rfl) ?_
      refine zr_iconstv (v := 1) F zd_MReader_numberNext_23 (by decide) ?_
      refine zr_iadd F zd_MReader_numberNext_24 ?_
      obtain ⟨le10, hs9, h⟩ := zoS_s h
      obtain ⟨p11, ep11, h⟩ := zoB_s h
      refine zr_callV1 F (k_MReader_byteAt l D tA b sh _ ep11) zd_MReader_numberNext_25 (zW_o hs9 (by decide)) rfl zs_MReader_30 rfl zq_MReader_byteAt rfl rfl ⟨(Nat.le_of_ble_eq_true rfl), (Nat.le_of_ble_eq_true rfl)⟩ (Nat.le_of_ble_eq_true rfl) ⟨(Nat.le_of_ble_eq_true rfl), (Nat.le_of_ble_eq_true rfl)⟩ ?_
      refine zr_callS1 F (c_MReader_digit l D tA b _ _ (p11.1)) zd_MReader_numberNext_28 zs_MReader_59 zq_MReader_digit rfl rfl ⟨(Nat.le_of_ble_eq_true rfl), (Nat.le_of_ble_eq_true rfl)⟩ (Nat.le_of_ble_eq_true rfl) ⟨(Nat.le_of_ble_eq_true rfl), (Nat.le_of_ble_eq_true rfl)⟩ ?_
      refine zr_if_eq F 38 zd_MReader_numberNext_31 (by decide) (fun hb13 => ?_) (fun hb13 => ?_)
      ·
        rw [if_pos hb13] at h
        refine zr_iconstv (v := 0) F zd_MReader_numberNext_38 (by decide) ?_
        refine zr_pcn 39 rfl ?_
        obtain rfl := Option.some.inj h
        exact zr_zret F hr rfl zd_MReader_numberNext_39 (Nat.le_of_ble_eq_true rfl) (Nat.le_of_ble_eq_true rfl) ⟨rfl, rfl, rfl⟩
      ·
        rw [if_neg hb13] at h
        refine zr_iconstv (v := 1) F zd_MReader_numberNext_34 (by decide) ?_
        refine zr_goto F 39 zd_MReader_numberNext_35 (by decide) ?_
        obtain rfl := Option.some.inj h
        exact zr_zret F hr rfl zd_MReader_numberNext_39 (Nat.le_of_ble_eq_true rfl) (Nat.le_of_ble_eq_true rfl) ⟨rfl, rfl, rfl⟩
abbrev zb_MReader_takeNumber : ByteArray := prog_17_method_10_code
def zy_MReader_takeNumber : MethodName := ⟨"OrreryBoxModel$Reader", "takeNumber", "()V"⟩
theorem zc_MReader_takeNumber : Cond.code zy_MReader_takeNumber zb_MReader_takeNumber 4 none ∈ gw := gw_t 1832 (by decide +kernel) rfl
theorem zq_MReader_takeNumber : zy_MReader_takeNumber.cls ≠ "java/lang/invoke/MethodHandle" ∧ zy_MReader_takeNumber.cls ≠ "java/lang/invoke/VarHandle" ∧ (parseMethodDescriptor zy_MReader_takeNumber.desc).map (fun d => d.parameters.length) = some 0 := by decide +kernel
theorem zd_MReader_takeNumber_0 : decode zb_MReader_takeNumber 0 = .ok (.aload_n 0, 1) := by decide +kernel
theorem zd_MReader_takeNumber_1 : decode zb_MReader_takeNumber 1 = .ok (.aload_n 0, 1) := by decide +kernel
theorem zd_MReader_takeNumber_2 : decode zb_MReader_takeNumber 2 = .ok (.getfield 27, 3) := by decide +kernel
theorem zd_MReader_takeNumber_5 : decode zb_MReader_takeNumber 5 = .ok (.putfield 63, 3) := by decide +kernel
theorem zd_MReader_takeNumber_8 : decode zb_MReader_takeNumber 8 = .ok (.aload_n 0, 1) := by decide +kernel
theorem zd_MReader_takeNumber_9 : decode zb_MReader_takeNumber 9 = .ok (.aload_n 0, 1) := by decide +kernel
theorem zd_MReader_takeNumber_10 : decode zb_MReader_takeNumber 10 = .ok (.getfield 27, 3) := by decide +kernel
theorem zd_MReader_takeNumber_13 : decode zb_MReader_takeNumber 13 = .ok (.invokevirtual 30, 3) := by decide +kernel
theorem zd_MReader_takeNumber_16 : decode zb_MReader_takeNumber 16 = .ok (.bipush 45, 2) := by decide +kernel
theorem zd_MReader_takeNumber_18 : decode zb_MReader_takeNumber 18 = .ok (.if_icmp .ne 7, 3) := by decide +kernel
theorem zd_MReader_takeNumber_21 : decode zb_MReader_takeNumber 21 = .ok (.iconst 1, 1) := by decide +kernel
theorem zd_MReader_takeNumber_22 : decode zb_MReader_takeNumber 22 = .ok (.goto 4, 3) := by decide +kernel
theorem zd_MReader_takeNumber_25 : decode zb_MReader_takeNumber 25 = .ok (.iconst 0, 1) := by decide +kernel
theorem zd_MReader_takeNumber_26 : decode zb_MReader_takeNumber 26 = .ok (.istore_n 1, 1) := by decide +kernel
theorem zd_MReader_takeNumber_27 : decode zb_MReader_takeNumber 27 = .ok (.iload_n 1, 1) := by decide +kernel
theorem zd_MReader_takeNumber_28 : decode zb_MReader_takeNumber 28 = .ok (.ifCond .eq 13, 3) := by decide +kernel
theorem zd_MReader_takeNumber_31 : decode zb_MReader_takeNumber 31 = .ok (.aload_n 0, 1) := by decide +kernel
theorem zd_MReader_takeNumber_32 : decode zb_MReader_takeNumber 32 = .ok (.dup, 1) := by decide +kernel
theorem zd_MReader_takeNumber_33 : decode zb_MReader_takeNumber 33 = .ok (.getfield 27, 3) := by decide +kernel
theorem zd_MReader_takeNumber_36 : decode zb_MReader_takeNumber 36 = .ok (.iconst 1, 1) := by decide +kernel
theorem zd_MReader_takeNumber_37 : decode zb_MReader_takeNumber 37 = .ok (.iadd, 1) := by decide +kernel
theorem zd_MReader_takeNumber_38 : decode zb_MReader_takeNumber 38 = .ok (.putfield 27, 3) := by decide +kernel
theorem zd_MReader_takeNumber_41 : decode zb_MReader_takeNumber 41 = .ok (.lconst 0, 1) := by decide +kernel
theorem zd_MReader_takeNumber_42 : decode zb_MReader_takeNumber 42 = .ok (.lstore_n 2, 1) := by decide +kernel
theorem zd_MReader_takeNumber_43 : decode zb_MReader_takeNumber 43 = .ok (.aload_n 0, 1) := by decide +kernel
theorem zd_MReader_takeNumber_44 : decode zb_MReader_takeNumber 44 = .ok (.iconst 1, 1) := by decide +kernel
theorem zd_MReader_takeNumber_45 : decode zb_MReader_takeNumber 45 = .ok (.putfield 66, 3) := by decide +kernel
theorem zd_MReader_takeNumber_48 : decode zb_MReader_takeNumber 48 = .ok (.aload_n 0, 1) := by decide +kernel
theorem zd_MReader_takeNumber_49 : decode zb_MReader_takeNumber 49 = .ok (.aload_n 0, 1) := by decide +kernel
theorem zd_MReader_takeNumber_50 : decode zb_MReader_takeNumber 50 = .ok (.getfield 27, 3) := by decide +kernel
theorem zd_MReader_takeNumber_53 : decode zb_MReader_takeNumber 53 = .ok (.invokevirtual 30, 3) := by decide +kernel
theorem zd_MReader_takeNumber_56 : decode zb_MReader_takeNumber 56 = .ok (.invokestatic 59, 3) := by decide +kernel
theorem zd_MReader_takeNumber_59 : decode zb_MReader_takeNumber 59 = .ok (.ifCond .eq 44, 3) := by decide +kernel
theorem zd_MReader_takeNumber_62 : decode zb_MReader_takeNumber 62 = .ok (.lload_n 2, 1) := by decide +kernel
theorem zd_MReader_takeNumber_63 : decode zb_MReader_takeNumber 63 = .ok (.ldc2_w 70, 3) := by decide +kernel
theorem zd_MReader_takeNumber_66 : decode zb_MReader_takeNumber 66 = .ok (.lcmp, 1) := by decide +kernel
theorem zd_MReader_takeNumber_67 : decode zb_MReader_takeNumber 67 = .ok (.ifCond .ge 23, 3) := by decide +kernel
theorem zd_MReader_takeNumber_70 : decode zb_MReader_takeNumber 70 = .ok (.ldc2_w 72, 3) := by decide +kernel
theorem zd_MReader_takeNumber_73 : decode zb_MReader_takeNumber 73 = .ok (.lload_n 2, 1) := by decide +kernel
theorem zd_MReader_takeNumber_74 : decode zb_MReader_takeNumber 74 = .ok (.lmul, 1) := by decide +kernel
theorem zd_MReader_takeNumber_75 : decode zb_MReader_takeNumber 75 = .ok (.aload_n 0, 1) := by decide +kernel
theorem zd_MReader_takeNumber_76 : decode zb_MReader_takeNumber 76 = .ok (.aload_n 0, 1) := by decide +kernel
theorem zd_MReader_takeNumber_77 : decode zb_MReader_takeNumber 77 = .ok (.getfield 27, 3) := by decide +kernel
theorem zd_MReader_takeNumber_80 : decode zb_MReader_takeNumber 80 = .ok (.invokevirtual 30, 3) := by decide +kernel
theorem zd_MReader_takeNumber_83 : decode zb_MReader_takeNumber 83 = .ok (.i2l, 1) := by decide +kernel
theorem zd_MReader_takeNumber_84 : decode zb_MReader_takeNumber 84 = .ok (.ladd, 1) := by decide +kernel
theorem zd_MReader_takeNumber_85 : decode zb_MReader_takeNumber 85 = .ok (.ldc2_w 74, 3) := by decide +kernel
theorem zd_MReader_takeNumber_88 : decode zb_MReader_takeNumber 88 = .ok (.lsub, 1) := by decide +kernel
theorem zd_MReader_takeNumber_89 : decode zb_MReader_takeNumber 89 = .ok (.lstore_n 2, 1) := by decide +kernel
theorem zd_MReader_takeNumber_90 : decode zb_MReader_takeNumber 90 = .ok (.aload_n 0, 1) := by decide +kernel
theorem zd_MReader_takeNumber_91 : decode zb_MReader_takeNumber 91 = .ok (.dup, 1) := by decide +kernel
theorem zd_MReader_takeNumber_92 : decode zb_MReader_takeNumber 92 = .ok (.getfield 27, 3) := by decide +kernel
theorem zd_MReader_takeNumber_95 : decode zb_MReader_takeNumber 95 = .ok (.iconst 1, 1) := by decide +kernel
theorem zd_MReader_takeNumber_96 : decode zb_MReader_takeNumber 96 = .ok (.iadd, 1) := by decide +kernel
theorem zd_MReader_takeNumber_97 : decode zb_MReader_takeNumber 97 = .ok (.putfield 27, 3) := by decide +kernel
theorem zd_MReader_takeNumber_100 : decode zb_MReader_takeNumber 100 = .ok (.goto (-52), 3) := by decide +kernel
theorem zd_MReader_takeNumber_103 : decode zb_MReader_takeNumber 103 = .ok (.iload_n 1, 1) := by decide +kernel
theorem zd_MReader_takeNumber_104 : decode zb_MReader_takeNumber 104 = .ok (.ifCond .eq 6, 3) := by decide +kernel
theorem zd_MReader_takeNumber_107 : decode zb_MReader_takeNumber 107 = .ok (.lload_n 2, 1) := by decide +kernel
theorem zd_MReader_takeNumber_108 : decode zb_MReader_takeNumber 108 = .ok (.lneg, 1) := by decide +kernel
theorem zd_MReader_takeNumber_109 : decode zb_MReader_takeNumber 109 = .ok (.lstore_n 2, 1) := by decide +kernel
theorem zd_MReader_takeNumber_110 : decode zb_MReader_takeNumber 110 = .ok (.aload_n 0, 1) := by decide +kernel
theorem zd_MReader_takeNumber_111 : decode zb_MReader_takeNumber 111 = .ok (.lload_n 2, 1) := by decide +kernel
theorem zd_MReader_takeNumber_112 : decode zb_MReader_takeNumber 112 = .ok (.ldc2_w 76, 3) := by decide +kernel
theorem zd_MReader_takeNumber_115 : decode zb_MReader_takeNumber 115 = .ok (.lcmp, 1) := by decide +kernel
theorem zd_MReader_takeNumber_116 : decode zb_MReader_takeNumber 116 = .ok (.ifCond .lt 15, 3) := by decide +kernel
theorem zd_MReader_takeNumber_119 : decode zb_MReader_takeNumber 119 = .ok (.lload_n 2, 1) := by decide +kernel
theorem zd_MReader_takeNumber_120 : decode zb_MReader_takeNumber 120 = .ok (.ldc2_w 78, 3) := by decide +kernel
theorem zd_MReader_takeNumber_123 : decode zb_MReader_takeNumber 123 = .ok (.lcmp, 1) := by decide +kernel
theorem zd_MReader_takeNumber_124 : decode zb_MReader_takeNumber 124 = .ok (.ifCond .gt 7, 3) := by decide +kernel
theorem zd_MReader_takeNumber_127 : decode zb_MReader_takeNumber 127 = .ok (.iconst 1, 1) := by decide +kernel
theorem zd_MReader_takeNumber_128 : decode zb_MReader_takeNumber 128 = .ok (.goto 4, 3) := by decide +kernel
theorem zd_MReader_takeNumber_131 : decode zb_MReader_takeNumber 131 = .ok (.iconst 0, 1) := by decide +kernel
theorem zd_MReader_takeNumber_132 : decode zb_MReader_takeNumber 132 = .ok (.putfield 66, 3) := by decide +kernel
theorem zd_MReader_takeNumber_135 : decode zb_MReader_takeNumber 135 = .ok (.aload_n 0, 1) := by decide +kernel
theorem zd_MReader_takeNumber_136 : decode zb_MReader_takeNumber 136 = .ok (.lload_n 2, 1) := by decide +kernel
theorem zd_MReader_takeNumber_137 : decode zb_MReader_takeNumber 137 = .ok (.l2i, 1) := by decide +kernel
theorem zd_MReader_takeNumber_138 : decode zb_MReader_takeNumber 138 = .ok (.putfield 80, 3) := by decide +kernel
theorem zd_MReader_takeNumber_141 : decode zb_MReader_takeNumber 141 = .ok (.return_, 1) := by decide +kernel
theorem zw_1512 : (Jvm.Cond.fieldLink "OrreryBoxModel$Reader" (63 : Nat) "OrreryBoxModel$Reader" "numberAt" "I") ∈ gw := gw_t 1512 (by decide +kernel) rfl
theorem zf_I_14_6 (b : Nat) (m : zMem) (k : Nat) (v : Int32) : (zfl b 14 m k).set 6 (.int v) = zfl b 14 (mI m k 6 v) k := by simp [zfl, mI, upd, vp_updL]
theorem zw_1514 : (Jvm.Cond.fieldLink "OrreryBoxModel$Reader" (66 : Nat) "OrreryBoxModel$Reader" "isInt" "Z") ∈ gw := gw_t 1514 (by decide +kernel) rfl
theorem zf_I_14_8 (b : Nat) (m : zMem) (k : Nat) (v : Int32) : (zfl b 14 m k).set 8 (.int v) = zfl b 14 (mI m k 8 v) k := by simp [zfl, mI, upd, vp_updL]
theorem zw_1833 : (Jvm.Cond.constantLong "OrreryBoxModel$Reader" (70 : Nat) (10000000000 : Int64)) ∈ gw := gw_t 1833 (by decide +kernel) rfl
theorem zw_1834 : (Jvm.Cond.constantLong "OrreryBoxModel$Reader" (72 : Nat) (10 : Int64)) ∈ gw := gw_t 1834 (by decide +kernel) rfl
theorem zw_1835 : (Jvm.Cond.constantLong "OrreryBoxModel$Reader" (74 : Nat) (48 : Int64)) ∈ gw := gw_t 1835 (by decide +kernel) rfl
def L_MReader_takeNumber_48 (sh : zSh) (fuel : Nat) (v0 : Nat) (v1 : Int32) (v2 : Int64) (mm : zMem) : Option (Nat × Int32 × Int64 × zMem) := match fuel with
  | 0 => none
  | fu + 1 => zoS (sh v0) 14 (fun le17 => zoS (sh v0) 14 (fun le19 => Option.bind (F_MReader_byteAt sh mm v0 (mm.1 v0 3)) (fun p20 => (if (sp_MReader_digit (p20.1)) = 0 then some (v0, v1, v2, p20.2) else (if 0 ≤ (lg_cmp v2 10000000000) then zoS (sh v0) 14 (fun le25 => zoL (((p20.2).1 v0 3) + 1) (fun x26 => zoS (sh v0) 14 (fun le28 => zoL (mI (p20.2) v0 3 x26) (fun mm29 => L_MReader_takeNumber_48 sh fu v0 v1 v2 mm29)))) else zoS (sh v0) 14 (fun le31 => zoS (sh v0) 14 (fun le33 => Option.bind (F_MReader_byteAt sh (p20.2) v0 ((p20.2).1 v0 3)) (fun p34 => zoL (((10 * v2) + ((p34.1 : Int32).toInt64)) - 48) (fun x35 => zoS (sh v0) 14 (fun le37 => zoL (((p34.2).1 v0 3) + 1) (fun x38 => zoS (sh v0) 14 (fun le40 => zoL (mI (p34.2) v0 3 x38) (fun mm41 => L_MReader_takeNumber_48 sh fu v0 v1 x35 mm41)))))))))))))
set_option maxHeartbeats 4000000 in
set_option maxRecDepth 100000 in
theorem lp_MReader_takeNumber_48 {p : Program} {l : Launch} {e : Env} {s : State} {m : MethodId} {args : Array Value} {below : List Frame} {meth : Method} {c : Code} {D : va_G} {tA : Nat → ClassId} {b n : Nat} {post : Option Value → zV → Nat → Prop} {sh : zSh} (F : zF p s m args meth c zb_MReader_takeNumber 4 "OrreryBoxModel$Reader" D tA b) : ∀ (fuel : Nat) (v0 : Nat) (v1 : Int32) (v2 : Int64) (mm : zMem) (r : Nat × Int32 × Int64 × zMem), L_MReader_takeNumber_48 sh fuel v0 v1 v2 mm = some r → (Z p l e { frames := 1, cells := 0, slots := 0, locals := 21 } s m args below meth c D b 4 (MQ below (zQ D b post) args s 0 0 (fun q => b ≤ q)) (zW tA b sh r.2.2.2) n 0 0 103 [(0, .ref (b + (r.1))), (1, .int (r.2.1)), (2, .long (r.2.2.1))] []) → Z p l e { frames := 1, cells := 0, slots := 0, locals := 21 } s m args below meth c D b 4 (MQ below (zQ D b post) args s 0 0 (fun q => b ≤ q)) (zW tA b sh mm) n 0 0 48 [(0, .ref (b + v0)), (1, .int v1), (2, .long v2)] [] := by
  intro fuel
  induction fuel with
  | zero =>
    intro v0 v1 v2 mm r h
    cases h
  | succ fu ih =>
    intro v0 v1 v2 mm r h hx0
    rw [L_MReader_takeNumber_48] at h
    refine zr_aload_n F zd_MReader_takeNumber_48 rfl ?_
    refine zr_aload_n F zd_MReader_takeNumber_49 rfl ?_
    obtain ⟨le17, hs16, h⟩ := zoS_s h
    refine zr_get F 14 3 zd_MReader_takeNumber_50 (zW_o hs16 (by decide)) rfl (by decide) zw_1507 rfl (by rfl) ?_
    obtain ⟨le19, hs18, h⟩ := zoS_s h
    obtain ⟨p20, ep20, h⟩ := zoB_s h
    refine zr_callV1 F (k_MReader_byteAt l D tA b sh _ ep20) zd_MReader_takeNumber_53 (zW_o hs18 (by decide)) rfl zs_MReader_30 rfl zq_MReader_byteAt rfl rfl ⟨(Nat.le_of_ble_eq_true rfl), (Nat.le_of_ble_eq_true rfl)⟩ (Nat.le_of_ble_eq_true rfl) ⟨(Nat.le_of_ble_eq_true rfl), (Nat.le_of_ble_eq_true rfl)⟩ ?_
    refine zr_pcn 56 rfl ?_
    refine zr_callS1 F (c_MReader_digit l D tA b _ _ (p20.1)) zd_MReader_takeNumber_56 zs_MReader_59 zq_MReader_digit rfl rfl ⟨(Nat.le_of_ble_eq_true rfl), (Nat.le_of_ble_eq_true rfl)⟩ (Nat.le_of_ble_eq_true rfl) ⟨(Nat.le_of_ble_eq_true rfl), (Nat.le_of_ble_eq_true rfl)⟩ ?_
    refine zr_if_eq F 103 zd_MReader_takeNumber_59 (by decide) (fun hb22 => ?_) (fun hb22 => ?_)
    ·
      rw [if_pos hb22] at h
      obtain rfl := Option.some.inj h
      refine zr_loc (L' := [(0, .ref (b + v0)), (1, .int v1), (2, .long v2)]) ⟨rfl, rfl, rfl, trivial⟩ ?_
      exact hx0 
    ·
      rw [if_neg hb22] at h
      refine zr_lload_n F zd_MReader_takeNumber_62 rfl ?_
      refine zr_ldc2 F zd_MReader_takeNumber_63 zw_1833 ?_
      refine zr_lcmp F zd_MReader_takeNumber_66 ?_
      refine zr_if_ge F 90 zd_MReader_takeNumber_67 (by decide) (fun hb23 => ?_) (fun hb23 => ?_)
      ·
        rw [if_pos hb23] at h
        refine zr_aload_n F zd_MReader_takeNumber_90 rfl ?_
        refine zr_dup F zd_MReader_takeNumber_91 rfl ?_
        refine zr_pcn 92 rfl ?_
        obtain ⟨le25, hs24, h⟩ := zoS_s h
        refine zr_get F 14 3 zd_MReader_takeNumber_92 (zW_o hs24 (by decide)) rfl (by decide) zw_1507 rfl (by rfl) ?_
        refine zr_iconstv (v := 1) F zd_MReader_takeNumber_95 (by decide) ?_
        refine zr_iadd F zd_MReader_takeNumber_96 ?_
        obtain ⟨x26, ex26, h⟩ := zoL_s h
        rw [← ex26]
        obtain ⟨le28, hs27, h⟩ := zoS_s h
        refine zr_put F 14 3 zd_MReader_takeNumber_97 (zW_o hs27 (by decide)) rfl (by decide) zw_1507 rfl rfl rfl rfl (by exact (Nat.le_of_ble_eq_true rfl)) ?_
        obtain ⟨mm29, emm29, h⟩ := zoL_s h
        refine zr_norm (zW tA b sh mm29) _ (by rw [emm29]; exact zW_pI (v := x26) hs27 (by decide) (zf_I_14_3 b _ _ _)) rfl ?_
        refine zr_goto F 48 zd_MReader_takeNumber_100 (by decide) ?_
        refine zr_loc (L' := [(0, .ref (b + v0)), (1, .int v1), (2, .long v2)]) ⟨rfl, rfl, rfl, trivial⟩ ?_
        exact ih _ _ _ _ _ h hx0
      ·
        rw [if_neg hb23] at h
        refine zr_ldc2 F zd_MReader_takeNumber_70 zw_1834 ?_
        refine zr_lload_n F zd_MReader_takeNumber_73 rfl ?_
        refine zr_lmul F zd_MReader_takeNumber_74 ?_
        refine zr_pcn 75 rfl ?_
        refine zr_aload_n F zd_MReader_takeNumber_75 rfl ?_
        refine zr_aload_n F zd_MReader_takeNumber_76 rfl ?_
        obtain ⟨le31, hs30, h⟩ := zoS_s h
        refine zr_get F 14 3 zd_MReader_takeNumber_77 (zW_o hs30 (by decide)) rfl (by decide) zw_1507 rfl (by rfl) ?_
        obtain ⟨le33, hs32, h⟩ := zoS_s h
        obtain ⟨p34, ep34, h⟩ := zoB_s h
        refine zr_callV1 F (k_MReader_byteAt l D tA b sh _ ep34) zd_MReader_takeNumber_80 (zW_o hs32 (by decide)) rfl zs_MReader_30 rfl zq_MReader_byteAt rfl rfl ⟨(Nat.le_of_ble_eq_true rfl), (Nat.le_of_ble_eq_true rfl)⟩ (Nat.le_of_ble_eq_true rfl) ⟨(Nat.le_of_ble_eq_true rfl), (Nat.le_of_ble_eq_true rfl)⟩ ?_
        refine zr_i2l F zd_MReader_takeNumber_83 ?_
        refine zr_ladd F zd_MReader_takeNumber_84 ?_
        refine zr_ldc2 F zd_MReader_takeNumber_85 zw_1835 ?_
        refine zr_lsub F zd_MReader_takeNumber_88 ?_
        refine zr_pcn 89 rfl ?_
        obtain ⟨x35, ex35, h⟩ := zoL_s h
        rw [← ex35]
        refine zr_lstore_n F zd_MReader_takeNumber_89 (by decide) ?_
        refine zr_aload_n F zd_MReader_takeNumber_90 rfl ?_
        refine zr_dup F zd_MReader_takeNumber_91 rfl ?_
        obtain ⟨le37, hs36, h⟩ := zoS_s h
        refine zr_get F 14 3 zd_MReader_takeNumber_92 (zW_o hs36 (by decide)) rfl (by decide) zw_1507 rfl (by rfl) ?_
        refine zr_iconstv (v := 1) F zd_MReader_takeNumber_95 (by decide) ?_
        refine zr_iadd F zd_MReader_takeNumber_96 ?_
        obtain ⟨x38, ex38, h⟩ := zoL_s h
        rw [← ex38]
        obtain ⟨le40, hs39, h⟩ := zoS_s h
        refine zr_put F 14 3 zd_MReader_takeNumber_97 (zW_o hs39 (by decide)) rfl (by decide) zw_1507 rfl rfl rfl rfl (by exact (Nat.le_of_ble_eq_true rfl)) ?_
        obtain ⟨mm41, emm41, h⟩ := zoL_s h
        refine zr_norm (zW tA b sh mm41) _ (by rw [emm41]; exact zW_pI (v := x38) hs39 (by decide) (zf_I_14_3 b _ _ _)) rfl ?_
        refine zr_goto F 48 zd_MReader_takeNumber_100 (by decide) ?_
        refine zr_loc (L' := [(0, .ref (b + v0)), (1, .int v1), (2, .long x35)]) ⟨rfl, rfl, rfl, trivial⟩ ?_
        exact ih _ _ _ _ _ h hx0
theorem zw_1836 : (Jvm.Cond.constantLong "OrreryBoxModel$Reader" (76 : Nat) (-2147483648 : Int64)) ∈ gw := gw_t 1836 (by decide +kernel) rfl
theorem zf_I_14_7 (b : Nat) (m : zMem) (k : Nat) (v : Int32) : (zfl b 14 m k).set 7 (.int v) = zfl b 14 (mI m k 7 v) k := by simp [zfl, mI, upd, vp_updL]
theorem zw_1837 : (Jvm.Cond.constantLong "OrreryBoxModel$Reader" (78 : Nat) (2147483647 : Int64)) ∈ gw := gw_t 1837 (by decide +kernel) rfl
def F_MReader_takeNumber (sh : zSh) (mm : zMem) (o : Nat) : Option zMem := zoS (sh o) 14 (fun le2 => zoL (mm.1 o 3) (fun x3 => zoS (sh o) 14 (fun le5 => zoL (mI mm o 6 x3) (fun mm6 => zoS (sh o) 14 (fun le8 => zoS (sh o) 14 (fun le10 => Option.bind (F_MReader_byteAt sh mm6 o (mm6.1 o 3)) (fun p11 => (if p11.1 = 45 then zoS (sh o) 14 (fun le92 => zoL (((p11.2).1 o 3) + 1) (fun x93 => zoS (sh o) 14 (fun le95 => zoL (mI (p11.2) o 3 x93) (fun mm96 => zoS (sh o) 14 (fun le98 => zoL (mI mm96 o 8 1) (fun mm99 => Option.bind (L_MReader_takeNumber_48 sh zfuel o 1 0 mm99) (fun q100 => (if q100.2.1 = 0 then (if (lg_cmp q100.2.2.1 (-2147483648)) < 0 then zoS (sh (q100.1)) 14 (fun le104 => zoL (mI (q100.2.2.2) (q100.1) 8 0) (fun mm105 => zoL ((q100.2.2.1 : Int64).toInt32) (fun x106 => zoS (sh (q100.1)) 14 (fun le108 => zoL (mI mm105 (q100.1) 7 x106) (fun mm109 => some mm109))))) else (if 0 < (lg_cmp q100.2.2.1 2147483647) then zoS (sh (q100.1)) 14 (fun le112 => zoL (mI (q100.2.2.2) (q100.1) 8 0) (fun mm113 => zoL ((q100.2.2.1 : Int64).toInt32) (fun x114 => zoS (sh (q100.1)) 14 (fun le116 => zoL (mI mm113 (q100.1) 7 x114) (fun mm117 => some mm117))))) else zoS (sh (q100.1)) 14 (fun le119 => zoL (mI (q100.2.2.2) (q100.1) 8 1) (fun mm120 => zoL ((q100.2.2.1 : Int64).toInt32) (fun x121 => zoS (sh (q100.1)) 14 (fun le123 => zoL (mI mm120 (q100.1) 7 x121) (fun mm124 => some mm124))))))) else zoL (-q100.2.2.1) (fun x125 => (if (lg_cmp x125 (-2147483648)) < 0 then zoS (sh (q100.1)) 14 (fun le128 => zoL (mI (q100.2.2.2) (q100.1) 8 0) (fun mm129 => zoL ((x125 : Int64).toInt32) (fun x130 => zoS (sh (q100.1)) 14 (fun le132 => zoL (mI mm129 (q100.1) 7 x130) (fun mm133 => some mm133))))) else (if 0 < (lg_cmp x125 2147483647) then zoS (sh (q100.1)) 14 (fun le136 => zoL (mI (q100.2.2.2) (q100.1) 8 0) (fun mm137 => zoL ((x125 : Int64).toInt32) (fun x138 => zoS (sh (q100.1)) 14 (fun le140 => zoL (mI mm137 (q100.1) 7 x138) (fun mm141 => some mm141))))) else zoS (sh (q100.1)) 14 (fun le143 => zoL (mI (q100.2.2.2) (q100.1) 8 1) (fun mm144 => zoL ((x125 : Int64).toInt32) (fun x145 => zoS (sh (q100.1)) 14 (fun le147 => zoL (mI mm144 (q100.1) 7 x145) (fun mm148 => some mm148)))))))))))))))) else zoS (sh o) 14 (fun le14 => zoL (mI (p11.2) o 8 1) (fun mm15 => Option.bind (L_MReader_takeNumber_48 sh zfuel o 0 0 mm15) (fun q42 => (if q42.2.1 = 0 then (if (lg_cmp q42.2.2.1 (-2147483648)) < 0 then zoS (sh (q42.1)) 14 (fun le46 => zoL (mI (q42.2.2.2) (q42.1) 8 0) (fun mm47 => zoL ((q42.2.2.1 : Int64).toInt32) (fun x48 => zoS (sh (q42.1)) 14 (fun le50 => zoL (mI mm47 (q42.1) 7 x48) (fun mm51 => some mm51))))) else (if 0 < (lg_cmp q42.2.2.1 2147483647) then zoS (sh (q42.1)) 14 (fun le54 => zoL (mI (q42.2.2.2) (q42.1) 8 0) (fun mm55 => zoL ((q42.2.2.1 : Int64).toInt32) (fun x56 => zoS (sh (q42.1)) 14 (fun le58 => zoL (mI mm55 (q42.1) 7 x56) (fun mm59 => some mm59))))) else zoS (sh (q42.1)) 14 (fun le61 => zoL (mI (q42.2.2.2) (q42.1) 8 1) (fun mm62 => zoL ((q42.2.2.1 : Int64).toInt32) (fun x63 => zoS (sh (q42.1)) 14 (fun le65 => zoL (mI mm62 (q42.1) 7 x63) (fun mm66 => some mm66))))))) else zoL (-q42.2.2.1) (fun x67 => (if (lg_cmp x67 (-2147483648)) < 0 then zoS (sh (q42.1)) 14 (fun le70 => zoL (mI (q42.2.2.2) (q42.1) 8 0) (fun mm71 => zoL ((x67 : Int64).toInt32) (fun x72 => zoS (sh (q42.1)) 14 (fun le74 => zoL (mI mm71 (q42.1) 7 x72) (fun mm75 => some mm75))))) else (if 0 < (lg_cmp x67 2147483647) then zoS (sh (q42.1)) 14 (fun le78 => zoL (mI (q42.2.2.2) (q42.1) 8 0) (fun mm79 => zoL ((x67 : Int64).toInt32) (fun x80 => zoS (sh (q42.1)) 14 (fun le82 => zoL (mI mm79 (q42.1) 7 x80) (fun mm83 => some mm83))))) else zoS (sh (q42.1)) 14 (fun le85 => zoL (mI (q42.2.2.2) (q42.1) 8 1) (fun mm86 => zoL ((x67 : Int64).toInt32) (fun x87 => zoS (sh (q42.1)) 14 (fun le89 => zoL (mI mm86 (q42.1) 7 x87) (fun mm90 => some mm90))))))))))))))))))))
set_option maxHeartbeats 4000000 in
set_option maxRecDepth 100000 in
theorem k_MReader_takeNumber (l : Launch) (D : va_G) (tA : Nat → ClassId) (b : Nat) (sh : zSh) (n : Nat) {mm : zMem} {o : Nat} {r : zMem} (h : F_MReader_takeNumber sh mm o = some r) : zM l D tA b zy_MReader_takeNumber zb_MReader_takeNumber 4 none 1 21 0 0 [.ref (b + o)] (zW tA b sh mm) n (zE none (zW tA b sh r) n) := by
  unfold F_MReader_takeNumber at h
  refine zM_of (own := "OrreryBoxModel$Reader") (plainFor_of_name (by decide)) rfl (Nat.le_of_ble_eq_true rfl) (fun p e s m below meth c F hr hin hH => ?_)
  refine zr_aload_n F zd_MReader_takeNumber_0 rfl ?_
  refine zr_aload_n F zd_MReader_takeNumber_1 rfl ?_
  obtain ⟨le2, hs1, h⟩ := zoS_s h
  refine zr_get F 14 3 zd_MReader_takeNumber_2 (zW_o hs1 (by decide)) rfl (by decide) zw_1507 rfl (by rfl) ?_
  obtain ⟨x3, ex3, h⟩ := zoL_s h
  rw [← ex3]
  obtain ⟨le5, hs4, h⟩ := zoS_s h
  refine zr_put F 14 6 zd_MReader_takeNumber_5 (zW_o hs4 (by decide)) rfl (by decide) zw_1512 rfl rfl rfl rfl (by exact (Nat.le_of_ble_eq_true rfl)) ?_
  obtain ⟨mm6, emm6, h⟩ := zoL_s h
  refine zr_norm (zW tA b sh mm6) _ (by rw [emm6]; exact zW_pI (v := x3) hs4 (by decide) (zf_I_14_6 b _ _ _)) rfl ?_
  refine zr_aload_n F zd_MReader_takeNumber_8 rfl ?_
  refine zr_aload_n F zd_MReader_takeNumber_9 rfl ?_
  obtain ⟨le8, hs7, h⟩ := zoS_s h
  refine zr_get F 14 3 zd_MReader_takeNumber_10 (zW_o hs7 (by decide)) rfl (by decide) zw_1507 rfl (by rfl) ?_
  refine zr_pcn 13 rfl ?_
  obtain ⟨le10, hs9, h⟩ := zoS_s h
  obtain ⟨p11, ep11, h⟩ := zoB_s h
  refine zr_callV1 F (k_MReader_byteAt l D tA b sh _ ep11) zd_MReader_takeNumber_13 (zW_o hs9 (by decide)) rfl zs_MReader_30 rfl zq_MReader_byteAt rfl rfl ⟨(Nat.le_of_ble_eq_true rfl), (Nat.le_of_ble_eq_true rfl)⟩ (Nat.le_of_ble_eq_true rfl) ⟨(Nat.le_of_ble_eq_true rfl), (Nat.le_of_ble_eq_true rfl)⟩ ?_
  refine zr_bipushv (v := 45) F zd_MReader_takeNumber_16 (by decide) ?_
  refine zr_icmp_ne F 25 zd_MReader_takeNumber_18 (by decide) (fun hb12 => ?_) (fun hb12 => ?_)
  ·
    rw [if_neg hb12] at h
    refine zr_iconstv (v := 0) F zd_MReader_takeNumber_25 (by decide) ?_
    refine zr_istore_n F zd_MReader_takeNumber_26 (by decide) ?_
    refine zr_iload_n F zd_MReader_takeNumber_27 rfl ?_
    refine zr_if_eq F 41 zd_MReader_takeNumber_28 (by decide) (fun _ => ?_) (fun hq => absurd hq (by decide))
    refine zr_lconstv (v := 0) F zd_MReader_takeNumber_41 (by decide) ?_
    refine zr_pcn 42 rfl ?_
    refine zr_lstore_n F zd_MReader_takeNumber_42 (by decide) ?_
    refine zr_aload_n F zd_MReader_takeNumber_43 rfl ?_
    refine zr_iconstv (v := 1) F zd_MReader_takeNumber_44 (by decide) ?_
    obtain ⟨le14, hs13, h⟩ := zoS_s h
    refine zr_put F 14 8 zd_MReader_takeNumber_45 (zW_o hs13 (by decide)) rfl (by decide) zw_1514 rfl rfl rfl rfl (by exact (Nat.le_of_ble_eq_true rfl)) ?_
    obtain ⟨mm15, emm15, h⟩ := zoL_s h
    refine zr_norm (zW tA b sh mm15) _ (by rw [emm15]; exact zW_pI (v := 1) hs13 (by decide) (zf_I_14_8 b _ _ _)) rfl ?_
    obtain ⟨q42, eq42, h⟩ := zoB_s h
    refine zr_loc (L' := [(0, .ref (b + o)), (1, .int 0), (2, .long 0)]) ⟨rfl, rfl, rfl, trivial⟩ ?_
    refine lp_MReader_takeNumber_48 F _ _ _ _ _ _ eq42 ?_
    ·
      refine zr_pcn 103 rfl ?_
      refine zr_iload_n F zd_MReader_takeNumber_103 rfl ?_
      refine zr_if_eq F 110 zd_MReader_takeNumber_104 (by decide) (fun hb43 => ?_) (fun hb43 => ?_)
      ·
        rw [if_pos hb43] at h
        refine zr_aload_n F zd_MReader_takeNumber_110 rfl ?_
        refine zr_lload_n F zd_MReader_takeNumber_111 rfl ?_
        refine zr_ldc2 F zd_MReader_takeNumber_112 zw_1836 ?_
        refine zr_lcmp F zd_MReader_takeNumber_115 ?_
        refine zr_if_lt F 131 zd_MReader_takeNumber_116 (by decide) (fun hb44 => ?_) (fun hb44 => ?_)
        ·
          rw [if_pos hb44] at h
          refine zr_iconstv (v := 0) F zd_MReader_takeNumber_131 (by decide) ?_
          refine zr_pcn 132 rfl ?_
          obtain ⟨le46, hs45, h⟩ := zoS_s h
          refine zr_put F 14 8 zd_MReader_takeNumber_132 (zW_o hs45 (by decide)) rfl (by decide) zw_1514 rfl rfl rfl rfl (by exact (Nat.le_of_ble_eq_true rfl)) ?_
          obtain ⟨mm47, emm47, h⟩ := zoL_s h
          refine zr_norm (zW tA b sh mm47) _ (by rw [emm47]; exact zW_pI (v := 0) hs45 (by decide) (zf_I_14_8 b _ _ _)) rfl ?_
          refine zr_aload_n F zd_MReader_takeNumber_135 rfl ?_
          refine zr_lload_n F zd_MReader_takeNumber_136 rfl ?_
          refine zr_l2i F zd_MReader_takeNumber_137 ?_
          obtain ⟨x48, ex48, h⟩ := zoL_s h
          rw [← ex48]
          obtain ⟨le50, hs49, h⟩ := zoS_s h
          refine zr_put F 14 7 zd_MReader_takeNumber_138 (zW_o hs49 (by decide)) rfl (by decide) zw_1513 rfl rfl rfl rfl (by exact (Nat.le_of_ble_eq_true rfl)) ?_
          obtain ⟨mm51, emm51, h⟩ := zoL_s h
          refine zr_norm (zW tA b sh mm51) _ (by rw [emm51]; exact zW_pI (v := x48) hs49 (by decide) (zf_I_14_7 b _ _ _)) rfl ?_
          obtain rfl := Option.some.inj h
          exact zr_vret F hr zd_MReader_takeNumber_141 (Nat.le_of_ble_eq_true rfl) (Nat.le_of_ble_eq_true rfl) ⟨rfl, rfl, rfl⟩
        ·
          rw [if_neg hb44] at h
          refine zr_lload_n F zd_MReader_takeNumber_119 rfl ?_
          refine zr_ldc2 F zd_MReader_takeNumber_120 zw_1837 ?_
          refine zr_pcn 123 rfl ?_
          refine zr_lcmp F zd_MReader_takeNumber_123 ?_
          refine zr_if_gt F 131 zd_MReader_takeNumber_124 (by decide) (fun hb52 => ?_) (fun hb52 => ?_)
          ·
            rw [if_pos hb52] at h
            refine zr_iconstv (v := 0) F zd_MReader_takeNumber_131 (by decide) ?_
            obtain ⟨le54, hs53, h⟩ := zoS_s h
            refine zr_put F 14 8 zd_MReader_takeNumber_132 (zW_o hs53 (by decide)) rfl (by decide) zw_1514 rfl rfl rfl rfl (by exact (Nat.le_of_ble_eq_true rfl)) ?_
            obtain ⟨mm55, emm55, h⟩ := zoL_s h
            refine zr_norm (zW tA b sh mm55) _ (by rw [emm55]; exact zW_pI (v := 0) hs53 (by decide) (zf_I_14_8 b _ _ _)) rfl ?_
            refine zr_aload_n F zd_MReader_takeNumber_135 rfl ?_
            refine zr_lload_n F zd_MReader_takeNumber_136 rfl ?_
            refine zr_l2i F zd_MReader_takeNumber_137 ?_
            obtain ⟨x56, ex56, h⟩ := zoL_s h
            rw [← ex56]
            obtain ⟨le58, hs57, h⟩ := zoS_s h
            refine zr_put F 14 7 zd_MReader_takeNumber_138 (zW_o hs57 (by decide)) rfl (by decide) zw_1513 rfl rfl rfl rfl (by exact (Nat.le_of_ble_eq_true rfl)) ?_
            obtain ⟨mm59, emm59, h⟩ := zoL_s h
            refine zr_norm (zW tA b sh mm59) _ (by rw [emm59]; exact zW_pI (v := x56) hs57 (by decide) (zf_I_14_7 b _ _ _)) rfl ?_
            refine zr_pcn 141 rfl ?_
            obtain rfl := Option.some.inj h
            exact zr_vret F hr zd_MReader_takeNumber_141 (Nat.le_of_ble_eq_true rfl) (Nat.le_of_ble_eq_true rfl) ⟨rfl, rfl, rfl⟩
          ·
            rw [if_neg hb52] at h
            refine zr_iconstv (v := 1) F zd_MReader_takeNumber_127 (by decide) ?_
            refine zr_goto F 132 zd_MReader_takeNumber_128 (by decide) ?_
            obtain ⟨le61, hs60, h⟩ := zoS_s h
            refine zr_put F 14 8 zd_MReader_takeNumber_132 (zW_o hs60 (by decide)) rfl (by decide) zw_1514 rfl rfl rfl rfl (by exact (Nat.le_of_ble_eq_true rfl)) ?_
            obtain ⟨mm62, emm62, h⟩ := zoL_s h
            refine zr_norm (zW tA b sh mm62) _ (by rw [emm62]; exact zW_pI (v := 1) hs60 (by decide) (zf_I_14_8 b _ _ _)) rfl ?_
            refine zr_aload_n F zd_MReader_takeNumber_135 rfl ?_
            refine zr_lload_n F zd_MReader_takeNumber_136 rfl ?_
            refine zr_l2i F zd_MReader_takeNumber_137 ?_
            obtain ⟨x63, ex63, h⟩ := zoL_s h
            rw [← ex63]
            obtain ⟨le65, hs64, h⟩ := zoS_s h
            refine zr_put F 14 7 zd_MReader_takeNumber_138 (zW_o hs64 (by decide)) rfl (by decide) zw_1513 rfl rfl rfl rfl (by exact (Nat.le_of_ble_eq_true rfl)) ?_
            obtain ⟨mm66, emm66, h⟩ := zoL_s h
            refine zr_norm (zW tA b sh mm66) _ (by rw [emm66]; exact zW_pI (v := x63) hs64 (by decide) (zf_I_14_7 b _ _ _)) rfl ?_
            refine zr_pcn 141 rfl ?_
            obtain rfl := Option.some.inj h
            exact zr_vret F hr zd_MReader_takeNumber_141 (Nat.le_of_ble_eq_true rfl) (Nat.le_of_ble_eq_true rfl) ⟨rfl, rfl, rfl⟩
      ·
        rw [if_neg hb43] at h
        refine zr_lload_n F zd_MReader_takeNumber_107 rfl ?_
        refine zr_lneg F zd_MReader_takeNumber_108 ?_
        obtain ⟨x67, ex67, h⟩ := zoL_s h
        rw [← ex67]
        refine zr_lstore_n F zd_MReader_takeNumber_109 (by decide) ?_
        refine zr_aload_n F zd_MReader_takeNumber_110 rfl ?_
        refine zr_lload_n F zd_MReader_takeNumber_111 rfl ?_
        refine zr_ldc2 F zd_MReader_takeNumber_112 zw_1836 ?_
        refine zr_lcmp F zd_MReader_takeNumber_115 ?_
        refine zr_pcn 116 rfl ?_
        refine zr_if_lt F 131 zd_MReader_takeNumber_116 (by decide) (fun hb68 => ?_) (fun hb68 => ?_)
        ·
          rw [if_pos hb68] at h
          refine zr_iconstv (v := 0) F zd_MReader_takeNumber_131 (by decide) ?_
          obtain ⟨le70, hs69, h⟩ := zoS_s h
          refine zr_put F 14 8 zd_MReader_takeNumber_132 (zW_o hs69 (by decide)) rfl (by decide) zw_1514 rfl rfl rfl rfl (by exact (Nat.le_of_ble_eq_true rfl)) ?_
          obtain ⟨mm71, emm71, h⟩ := zoL_s h
          refine zr_norm (zW tA b sh mm71) _ (by rw [emm71]; exact zW_pI (v := 0) hs69 (by decide) (zf_I_14_8 b _ _ _)) rfl ?_
          refine zr_aload_n F zd_MReader_takeNumber_135 rfl ?_
          refine zr_lload_n F zd_MReader_takeNumber_136 rfl ?_
          refine zr_l2i F zd_MReader_takeNumber_137 ?_
          obtain ⟨x72, ex72, h⟩ := zoL_s h
          rw [← ex72]
          obtain ⟨le74, hs73, h⟩ := zoS_s h
          refine zr_put F 14 7 zd_MReader_takeNumber_138 (zW_o hs73 (by decide)) rfl (by decide) zw_1513 rfl rfl rfl rfl (by exact (Nat.le_of_ble_eq_true rfl)) ?_
          obtain ⟨mm75, emm75, h⟩ := zoL_s h
          refine zr_norm (zW tA b sh mm75) _ (by rw [emm75]; exact zW_pI (v := x72) hs73 (by decide) (zf_I_14_7 b _ _ _)) rfl ?_
          obtain rfl := Option.some.inj h
          exact zr_vret F hr zd_MReader_takeNumber_141 (Nat.le_of_ble_eq_true rfl) (Nat.le_of_ble_eq_true rfl) ⟨rfl, rfl, rfl⟩
        ·
          rw [if_neg hb68] at h
          refine zr_pcn 119 rfl ?_
          refine zr_lload_n F zd_MReader_takeNumber_119 rfl ?_
          refine zr_ldc2 F zd_MReader_takeNumber_120 zw_1837 ?_
          refine zr_lcmp F zd_MReader_takeNumber_123 ?_
          refine zr_if_gt F 131 zd_MReader_takeNumber_124 (by decide) (fun hb76 => ?_) (fun hb76 => ?_)
          ·
            rw [if_pos hb76] at h
            refine zr_iconstv (v := 0) F zd_MReader_takeNumber_131 (by decide) ?_
            obtain ⟨le78, hs77, h⟩ := zoS_s h
            refine zr_put F 14 8 zd_MReader_takeNumber_132 (zW_o hs77 (by decide)) rfl (by decide) zw_1514 rfl rfl rfl rfl (by exact (Nat.le_of_ble_eq_true rfl)) ?_
            obtain ⟨mm79, emm79, h⟩ := zoL_s h
            refine zr_norm (zW tA b sh mm79) _ (by rw [emm79]; exact zW_pI (v := 0) hs77 (by decide) (zf_I_14_8 b _ _ _)) rfl ?_
            refine zr_aload_n F zd_MReader_takeNumber_135 rfl ?_
            refine zr_lload_n F zd_MReader_takeNumber_136 rfl ?_
            refine zr_pcn 137 rfl ?_
            refine zr_l2i F zd_MReader_takeNumber_137 ?_
            obtain ⟨x80, ex80, h⟩ := zoL_s h
            rw [← ex80]
            obtain ⟨le82, hs81, h⟩ := zoS_s h
            refine zr_put F 14 7 zd_MReader_takeNumber_138 (zW_o hs81 (by decide)) rfl (by decide) zw_1513 rfl rfl rfl rfl (by exact (Nat.le_of_ble_eq_true rfl)) ?_
            obtain ⟨mm83, emm83, h⟩ := zoL_s h
            refine zr_norm (zW tA b sh mm83) _ (by rw [emm83]; exact zW_pI (v := x80) hs81 (by decide) (zf_I_14_7 b _ _ _)) rfl ?_
            obtain rfl := Option.some.inj h
            exact zr_vret F hr zd_MReader_takeNumber_141 (Nat.le_of_ble_eq_true rfl) (Nat.le_of_ble_eq_true rfl) ⟨rfl, rfl, rfl⟩
          ·
            rw [if_neg hb76] at h
            refine zr_iconstv (v := 1) F zd_MReader_takeNumber_127 (by decide) ?_
            refine zr_goto F 132 zd_MReader_takeNumber_128 (by decide) ?_
            obtain ⟨le85, hs84, h⟩ := zoS_s h
            refine zr_put F 14 8 zd_MReader_takeNumber_132 (zW_o hs84 (by decide)) rfl (by decide) zw_1514 rfl rfl rfl rfl (by exact (Nat.le_of_ble_eq_true rfl)) ?_
            obtain ⟨mm86, emm86, h⟩ := zoL_s h
            refine zr_norm (zW tA b sh mm86) _ (by rw [emm86]; exact zW_pI (v := 1) hs84 (by decide) (zf_I_14_8 b _ _ _)) rfl ?_
            refine zr_aload_n F zd_MReader_takeNumber_135 rfl ?_
            refine zr_lload_n F zd_MReader_takeNumber_136 rfl ?_
            refine zr_pcn 137 rfl ?_
            refine zr_l2i F zd_MReader_takeNumber_137 ?_
            obtain ⟨x87, ex87, h⟩ := zoL_s h
            rw [← ex87]
            obtain ⟨le89, hs88, h⟩ := zoS_s h
            refine zr_put F 14 7 zd_MReader_takeNumber_138 (zW_o hs88 (by decide)) rfl (by decide) zw_1513 rfl rfl rfl rfl (by exact (Nat.le_of_ble_eq_true rfl)) ?_
            obtain ⟨mm90, emm90, h⟩ := zoL_s h
            refine zr_norm (zW tA b sh mm90) _ (by rw [emm90]; exact zW_pI (v := x87) hs88 (by decide) (zf_I_14_7 b _ _ _)) rfl ?_
            obtain rfl := Option.some.inj h
            exact zr_vret F hr zd_MReader_takeNumber_141 (Nat.le_of_ble_eq_true rfl) (Nat.le_of_ble_eq_true rfl) ⟨rfl, rfl, rfl⟩
  ·
    rw [if_pos hb12] at h
    refine zr_iconstv (v := 1) F zd_MReader_takeNumber_21 (by decide) ?_
    refine zr_goto F 26 zd_MReader_takeNumber_22 (by decide) ?_
    refine zr_istore_n F zd_MReader_takeNumber_26 (by decide) ?_
    refine zr_iload_n F zd_MReader_takeNumber_27 rfl ?_
    refine zr_if_eq F 41 zd_MReader_takeNumber_28 (by decide) (fun hq => absurd hq (by decide)) (fun _ => ?_)
    refine zr_pcn 31 rfl ?_
    refine zr_aload_n F zd_MReader_takeNumber_31 rfl ?_
    refine zr_dup F zd_MReader_takeNumber_32 rfl ?_
    obtain ⟨le92, hs91, h⟩ := zoS_s h
    refine zr_get F 14 3 zd_MReader_takeNumber_33 (zW_o hs91 (by decide)) rfl (by decide) zw_1507 rfl (by rfl) ?_
    refine zr_iconstv (v := 1) F zd_MReader_takeNumber_36 (by decide) ?_
    refine zr_iadd F zd_MReader_takeNumber_37 ?_
    obtain ⟨x93, ex93, h⟩ := zoL_s h
    rw [← ex93]
    obtain ⟨le95, hs94, h⟩ := zoS_s h
    refine zr_put F 14 3 zd_MReader_takeNumber_38 (zW_o hs94 (by decide)) rfl (by decide) zw_1507 rfl rfl rfl rfl (by exact (Nat.le_of_ble_eq_true rfl)) ?_
    obtain ⟨mm96, emm96, h⟩ := zoL_s h
    refine zr_norm (zW tA b sh mm96) _ (by rw [emm96]; exact zW_pI (v := x93) hs94 (by decide) (zf_I_14_3 b _ _ _)) rfl ?_
    refine zr_lconstv (v := 0) F zd_MReader_takeNumber_41 (by decide) ?_
    refine zr_lstore_n F zd_MReader_takeNumber_42 (by decide) ?_
    refine zr_pcn 43 rfl ?_
    refine zr_aload_n F zd_MReader_takeNumber_43 rfl ?_
    refine zr_iconstv (v := 1) F zd_MReader_takeNumber_44 (by decide) ?_
    obtain ⟨le98, hs97, h⟩ := zoS_s h
    refine zr_put F 14 8 zd_MReader_takeNumber_45 (zW_o hs97 (by decide)) rfl (by decide) zw_1514 rfl rfl rfl rfl (by exact (Nat.le_of_ble_eq_true rfl)) ?_
    obtain ⟨mm99, emm99, h⟩ := zoL_s h
    refine zr_norm (zW tA b sh mm99) _ (by rw [emm99]; exact zW_pI (v := 1) hs97 (by decide) (zf_I_14_8 b _ _ _)) rfl ?_
    obtain ⟨q100, eq100, h⟩ := zoB_s h
    refine zr_loc (L' := [(0, .ref (b + o)), (1, .int 1), (2, .long 0)]) ⟨rfl, rfl, rfl, trivial⟩ ?_
    refine lp_MReader_takeNumber_48 F _ _ _ _ _ _ eq100 ?_
    ·
      refine zr_iload_n F zd_MReader_takeNumber_103 rfl ?_
      refine zr_if_eq F 110 zd_MReader_takeNumber_104 (by decide) (fun hb101 => ?_) (fun hb101 => ?_)
      ·
        rw [if_pos hb101] at h
        refine zr_aload_n F zd_MReader_takeNumber_110 rfl ?_
        refine zr_lload_n F zd_MReader_takeNumber_111 rfl ?_
        refine zr_ldc2 F zd_MReader_takeNumber_112 zw_1836 ?_
        refine zr_pcn 115 rfl ?_
        refine zr_lcmp F zd_MReader_takeNumber_115 ?_
        refine zr_if_lt F 131 zd_MReader_takeNumber_116 (by decide) (fun hb102 => ?_) (fun hb102 => ?_)
        ·
          rw [if_pos hb102] at h
          refine zr_iconstv (v := 0) F zd_MReader_takeNumber_131 (by decide) ?_
          obtain ⟨le104, hs103, h⟩ := zoS_s h
          refine zr_put F 14 8 zd_MReader_takeNumber_132 (zW_o hs103 (by decide)) rfl (by decide) zw_1514 rfl rfl rfl rfl (by exact (Nat.le_of_ble_eq_true rfl)) ?_
          obtain ⟨mm105, emm105, h⟩ := zoL_s h
          refine zr_norm (zW tA b sh mm105) _ (by rw [emm105]; exact zW_pI (v := 0) hs103 (by decide) (zf_I_14_8 b _ _ _)) rfl ?_
          refine zr_aload_n F zd_MReader_takeNumber_135 rfl ?_
          refine zr_lload_n F zd_MReader_takeNumber_136 rfl ?_
          refine zr_l2i F zd_MReader_takeNumber_137 ?_
          obtain ⟨x106, ex106, h⟩ := zoL_s h
          rw [← ex106]
          obtain ⟨le108, hs107, h⟩ := zoS_s h
          refine zr_put F 14 7 zd_MReader_takeNumber_138 (zW_o hs107 (by decide)) rfl (by decide) zw_1513 rfl rfl rfl rfl (by exact (Nat.le_of_ble_eq_true rfl)) ?_
          obtain ⟨mm109, emm109, h⟩ := zoL_s h
          refine zr_norm (zW tA b sh mm109) _ (by rw [emm109]; exact zW_pI (v := x106) hs107 (by decide) (zf_I_14_7 b _ _ _)) rfl ?_
          refine zr_pcn 141 rfl ?_
          obtain rfl := Option.some.inj h
          exact zr_vret F hr zd_MReader_takeNumber_141 (Nat.le_of_ble_eq_true rfl) (Nat.le_of_ble_eq_true rfl) ⟨rfl, rfl, rfl⟩
        ·
          rw [if_neg hb102] at h
          refine zr_lload_n F zd_MReader_takeNumber_119 rfl ?_
          refine zr_ldc2 F zd_MReader_takeNumber_120 zw_1837 ?_
          refine zr_lcmp F zd_MReader_takeNumber_123 ?_
          refine zr_if_gt F 131 zd_MReader_takeNumber_124 (by decide) (fun hb110 => ?_) (fun hb110 => ?_)
          ·
            rw [if_pos hb110] at h
            refine zr_iconstv (v := 0) F zd_MReader_takeNumber_131 (by decide) ?_
            obtain ⟨le112, hs111, h⟩ := zoS_s h
            refine zr_put F 14 8 zd_MReader_takeNumber_132 (zW_o hs111 (by decide)) rfl (by decide) zw_1514 rfl rfl rfl rfl (by exact (Nat.le_of_ble_eq_true rfl)) ?_
            obtain ⟨mm113, emm113, h⟩ := zoL_s h
            refine zr_norm (zW tA b sh mm113) _ (by rw [emm113]; exact zW_pI (v := 0) hs111 (by decide) (zf_I_14_8 b _ _ _)) rfl ?_
            refine zr_aload_n F zd_MReader_takeNumber_135 rfl ?_
            refine zr_pcn 136 rfl ?_
            refine zr_lload_n F zd_MReader_takeNumber_136 rfl ?_
            refine zr_l2i F zd_MReader_takeNumber_137 ?_
            obtain ⟨x114, ex114, h⟩ := zoL_s h
            rw [← ex114]
            obtain ⟨le116, hs115, h⟩ := zoS_s h
            refine zr_put F 14 7 zd_MReader_takeNumber_138 (zW_o hs115 (by decide)) rfl (by decide) zw_1513 rfl rfl rfl rfl (by exact (Nat.le_of_ble_eq_true rfl)) ?_
            obtain ⟨mm117, emm117, h⟩ := zoL_s h
            refine zr_norm (zW tA b sh mm117) _ (by rw [emm117]; exact zW_pI (v := x114) hs115 (by decide) (zf_I_14_7 b _ _ _)) rfl ?_
            obtain rfl := Option.some.inj h
            exact zr_vret F hr zd_MReader_takeNumber_141 (Nat.le_of_ble_eq_true rfl) (Nat.le_of_ble_eq_true rfl) ⟨rfl, rfl, rfl⟩
          ·
            rw [if_neg hb110] at h
            refine zr_iconstv (v := 1) F zd_MReader_takeNumber_127 (by decide) ?_
            refine zr_goto F 132 zd_MReader_takeNumber_128 (by decide) ?_
            obtain ⟨le119, hs118, h⟩ := zoS_s h
            refine zr_put F 14 8 zd_MReader_takeNumber_132 (zW_o hs118 (by decide)) rfl (by decide) zw_1514 rfl rfl rfl rfl (by exact (Nat.le_of_ble_eq_true rfl)) ?_
            obtain ⟨mm120, emm120, h⟩ := zoL_s h
            refine zr_norm (zW tA b sh mm120) _ (by rw [emm120]; exact zW_pI (v := 1) hs118 (by decide) (zf_I_14_8 b _ _ _)) rfl ?_
            refine zr_aload_n F zd_MReader_takeNumber_135 rfl ?_
            refine zr_pcn 136 rfl ?_
            refine zr_lload_n F zd_MReader_takeNumber_136 rfl ?_
            refine zr_l2i F zd_MReader_takeNumber_137 ?_
            obtain ⟨x121, ex121, h⟩ := zoL_s h
            rw [← ex121]
            obtain ⟨le123, hs122, h⟩ := zoS_s h
            refine zr_put F 14 7 zd_MReader_takeNumber_138 (zW_o hs122 (by decide)) rfl (by decide) zw_1513 rfl rfl rfl rfl (by exact (Nat.le_of_ble_eq_true rfl)) ?_
            obtain ⟨mm124, emm124, h⟩ := zoL_s h
            refine zr_norm (zW tA b sh mm124) _ (by rw [emm124]; exact zW_pI (v := x121) hs122 (by decide) (zf_I_14_7 b _ _ _)) rfl ?_
            obtain rfl := Option.some.inj h
            exact zr_vret F hr zd_MReader_takeNumber_141 (Nat.le_of_ble_eq_true rfl) (Nat.le_of_ble_eq_true rfl) ⟨rfl, rfl, rfl⟩
      ·
        rw [if_neg hb101] at h
        refine zr_lload_n F zd_MReader_takeNumber_107 rfl ?_
        refine zr_lneg F zd_MReader_takeNumber_108 ?_
        obtain ⟨x125, ex125, h⟩ := zoL_s h
        rw [← ex125]
        refine zr_lstore_n F zd_MReader_takeNumber_109 (by decide) ?_
        refine zr_aload_n F zd_MReader_takeNumber_110 rfl ?_
        refine zr_pcn 111 rfl ?_
        refine zr_lload_n F zd_MReader_takeNumber_111 rfl ?_
        refine zr_ldc2 F zd_MReader_takeNumber_112 zw_1836 ?_
        refine zr_lcmp F zd_MReader_takeNumber_115 ?_
        refine zr_if_lt F 131 zd_MReader_takeNumber_116 (by decide) (fun hb126 => ?_) (fun hb126 => ?_)
        ·
          rw [if_pos hb126] at h
          refine zr_iconstv (v := 0) F zd_MReader_takeNumber_131 (by decide) ?_
          obtain ⟨le128, hs127, h⟩ := zoS_s h
          refine zr_put F 14 8 zd_MReader_takeNumber_132 (zW_o hs127 (by decide)) rfl (by decide) zw_1514 rfl rfl rfl rfl (by exact (Nat.le_of_ble_eq_true rfl)) ?_
          obtain ⟨mm129, emm129, h⟩ := zoL_s h
          refine zr_norm (zW tA b sh mm129) _ (by rw [emm129]; exact zW_pI (v := 0) hs127 (by decide) (zf_I_14_8 b _ _ _)) rfl ?_
          refine zr_aload_n F zd_MReader_takeNumber_135 rfl ?_
          refine zr_lload_n F zd_MReader_takeNumber_136 rfl ?_
          refine zr_pcn 137 rfl ?_
          refine zr_l2i F zd_MReader_takeNumber_137 ?_
          obtain ⟨x130, ex130, h⟩ := zoL_s h
          rw [← ex130]
          obtain ⟨le132, hs131, h⟩ := zoS_s h
          refine zr_put F 14 7 zd_MReader_takeNumber_138 (zW_o hs131 (by decide)) rfl (by decide) zw_1513 rfl rfl rfl rfl (by exact (Nat.le_of_ble_eq_true rfl)) ?_
          obtain ⟨mm133, emm133, h⟩ := zoL_s h
          refine zr_norm (zW tA b sh mm133) _ (by rw [emm133]; exact zW_pI (v := x130) hs131 (by decide) (zf_I_14_7 b _ _ _)) rfl ?_
          obtain rfl := Option.some.inj h
          exact zr_vret F hr zd_MReader_takeNumber_141 (Nat.le_of_ble_eq_true rfl) (Nat.le_of_ble_eq_true rfl) ⟨rfl, rfl, rfl⟩
        ·
          rw [if_neg hb126] at h
          refine zr_lload_n F zd_MReader_takeNumber_119 rfl ?_
          refine zr_ldc2 F zd_MReader_takeNumber_120 zw_1837 ?_
          refine zr_lcmp F zd_MReader_takeNumber_123 ?_
          refine zr_if_gt F 131 zd_MReader_takeNumber_124 (by decide) (fun hb134 => ?_) (fun hb134 => ?_)
          ·
            rw [if_pos hb134] at h
            refine zr_iconstv (v := 0) F zd_MReader_takeNumber_131 (by decide) ?_
            refine zr_pcn 132 rfl ?_
            obtain ⟨le136, hs135, h⟩ := zoS_s h
            refine zr_put F 14 8 zd_MReader_takeNumber_132 (zW_o hs135 (by decide)) rfl (by decide) zw_1514 rfl rfl rfl rfl (by exact (Nat.le_of_ble_eq_true rfl)) ?_
            obtain ⟨mm137, emm137, h⟩ := zoL_s h
            refine zr_norm (zW tA b sh mm137) _ (by rw [emm137]; exact zW_pI (v := 0) hs135 (by decide) (zf_I_14_8 b _ _ _)) rfl ?_
            refine zr_aload_n F zd_MReader_takeNumber_135 rfl ?_
            refine zr_lload_n F zd_MReader_takeNumber_136 rfl ?_
            refine zr_l2i F zd_MReader_takeNumber_137 ?_
            obtain ⟨x138, ex138, h⟩ := zoL_s h
            rw [← ex138]
            obtain ⟨le140, hs139, h⟩ := zoS_s h
            refine zr_put F 14 7 zd_MReader_takeNumber_138 (zW_o hs139 (by decide)) rfl (by decide) zw_1513 rfl rfl rfl rfl (by exact (Nat.le_of_ble_eq_true rfl)) ?_
            obtain ⟨mm141, emm141, h⟩ := zoL_s h
            refine zr_norm (zW tA b sh mm141) _ (by rw [emm141]; exact zW_pI (v := x138) hs139 (by decide) (zf_I_14_7 b _ _ _)) rfl ?_
            obtain rfl := Option.some.inj h
            exact zr_vret F hr zd_MReader_takeNumber_141 (Nat.le_of_ble_eq_true rfl) (Nat.le_of_ble_eq_true rfl) ⟨rfl, rfl, rfl⟩
          ·
            rw [if_neg hb134] at h
            refine zr_iconstv (v := 1) F zd_MReader_takeNumber_127 (by decide) ?_
            refine zr_goto F 132 zd_MReader_takeNumber_128 (by decide) ?_
            refine zr_pcn 132 rfl ?_
            obtain ⟨le143, hs142, h⟩ := zoS_s h
            refine zr_put F 14 8 zd_MReader_takeNumber_132 (zW_o hs142 (by decide)) rfl (by decide) zw_1514 rfl rfl rfl rfl (by exact (Nat.le_of_ble_eq_true rfl)) ?_
            obtain ⟨mm144, emm144, h⟩ := zoL_s h
            refine zr_norm (zW tA b sh mm144) _ (by rw [emm144]; exact zW_pI (v := 1) hs142 (by decide) (zf_I_14_8 b _ _ _)) rfl ?_
            refine zr_aload_n F zd_MReader_takeNumber_135 rfl ?_
            refine zr_lload_n F zd_MReader_takeNumber_136 rfl ?_
            refine zr_l2i F zd_MReader_takeNumber_137 ?_
            obtain ⟨x145, ex145, h⟩ := zoL_s h
            rw [← ex145]
            obtain ⟨le147, hs146, h⟩ := zoS_s h
            refine zr_put F 14 7 zd_MReader_takeNumber_138 (zW_o hs146 (by decide)) rfl (by decide) zw_1513 rfl rfl rfl rfl (by exact (Nat.le_of_ble_eq_true rfl)) ?_
            obtain ⟨mm148, emm148, h⟩ := zoL_s h
            refine zr_norm (zW tA b sh mm148) _ (by rw [emm148]; exact zW_pI (v := x145) hs146 (by decide) (zf_I_14_7 b _ _ _)) rfl ?_
            obtain rfl := Option.some.inj h
            exact zr_vret F hr zd_MReader_takeNumber_141 (Nat.le_of_ble_eq_true rfl) (Nat.le_of_ble_eq_true rfl) ⟨rfl, rfl, rfl⟩
abbrev zb_MReader_single : ByteArray := prog_17_method_11_code
def zy_MReader_single : MethodName := ⟨"OrreryBoxModel$Reader", "single", "(Ljava/lang/String;II)I"⟩
theorem zc_MReader_single : Cond.code zy_MReader_single zb_MReader_single 4 (some .int) ∈ gw := gw_t 1821 (by decide +kernel) rfl
theorem zq_MReader_single : zy_MReader_single.cls ≠ "java/lang/invoke/MethodHandle" ∧ zy_MReader_single.cls ≠ "java/lang/invoke/VarHandle" ∧ (parseMethodDescriptor zy_MReader_single.desc).map (fun d => d.parameters.length) = some 3 := by decide +kernel
theorem zd_MReader_single_0 : decode zb_MReader_single 0 = .ok (.aload_n 0, 1) := by decide +kernel
theorem zd_MReader_single_1 : decode zb_MReader_single 1 = .ok (.aload_n 1, 1) := by decide +kernel
theorem zd_MReader_single_2 : decode zb_MReader_single 2 = .ok (.invokevirtual 83, 3) := by decide +kernel
theorem zd_MReader_single_5 : decode zb_MReader_single 5 = .ok (.aload_n 0, 1) := by decide +kernel
theorem zd_MReader_single_6 : decode zb_MReader_single 6 = .ok (.getfield 17, 3) := by decide +kernel
theorem zd_MReader_single_9 : decode zb_MReader_single 9 = .ok (.ifCond .eq 5, 3) := by decide +kernel
theorem zd_MReader_single_12 : decode zb_MReader_single 12 = .ok (.iconst 0, 1) := by decide +kernel
theorem zd_MReader_single_13 : decode zb_MReader_single 13 = .ok (.ireturn, 1) := by decide +kernel
theorem zd_MReader_single_14 : decode zb_MReader_single 14 = .ok (.aload_n 0, 1) := by decide +kernel
theorem zd_MReader_single_15 : decode zb_MReader_single 15 = .ok (.invokevirtual 87, 3) := by decide +kernel
theorem zd_MReader_single_18 : decode zb_MReader_single 18 = .ok (.ifCond .ne 14, 3) := by decide +kernel
theorem zd_MReader_single_21 : decode zb_MReader_single 21 = .ok (.aload_n 0, 1) := by decide +kernel
theorem zd_MReader_single_22 : decode zb_MReader_single 22 = .ok (.iconst 1, 1) := by decide +kernel
theorem zd_MReader_single_23 : decode zb_MReader_single 23 = .ok (.aload_n 0, 1) := by decide +kernel
theorem zd_MReader_single_24 : decode zb_MReader_single 24 = .ok (.getfield 27, 3) := by decide +kernel
theorem zd_MReader_single_27 : decode zb_MReader_single 27 = .ok (.invokevirtual 38, 3) := by decide +kernel
theorem zd_MReader_single_30 : decode zb_MReader_single 30 = .ok (.iconst 0, 1) := by decide +kernel
theorem zd_MReader_single_31 : decode zb_MReader_single 31 = .ok (.ireturn, 1) := by decide +kernel
theorem zd_MReader_single_32 : decode zb_MReader_single 32 = .ok (.aload_n 0, 1) := by decide +kernel
theorem zd_MReader_single_33 : decode zb_MReader_single 33 = .ok (.invokevirtual 91, 3) := by decide +kernel
theorem zd_MReader_single_36 : decode zb_MReader_single 36 = .ok (.aload_n 0, 1) := by decide +kernel
theorem zd_MReader_single_37 : decode zb_MReader_single 37 = .ok (.getfield 66, 3) := by decide +kernel
theorem zd_MReader_single_40 : decode zb_MReader_single 40 = .ok (.ifCond .eq 19, 3) := by decide +kernel
theorem zd_MReader_single_43 : decode zb_MReader_single 43 = .ok (.aload_n 0, 1) := by decide +kernel
theorem zd_MReader_single_44 : decode zb_MReader_single 44 = .ok (.getfield 80, 3) := by decide +kernel
theorem zd_MReader_single_47 : decode zb_MReader_single 47 = .ok (.iload_n 2, 1) := by decide +kernel
theorem zd_MReader_single_48 : decode zb_MReader_single 48 = .ok (.if_icmp .lt 11, 3) := by decide +kernel
theorem zd_MReader_single_51 : decode zb_MReader_single 51 = .ok (.aload_n 0, 1) := by decide +kernel
theorem zd_MReader_single_52 : decode zb_MReader_single 52 = .ok (.getfield 80, 3) := by decide +kernel
theorem zd_MReader_single_55 : decode zb_MReader_single 55 = .ok (.iload_n 3, 1) := by decide +kernel
theorem zd_MReader_single_56 : decode zb_MReader_single 56 = .ok (.if_icmp .le 12, 3) := by decide +kernel
theorem zd_MReader_single_59 : decode zb_MReader_single 59 = .ok (.aload_n 0, 1) := by decide +kernel
theorem zd_MReader_single_60 : decode zb_MReader_single 60 = .ok (.iconst 2, 1) := by decide +kernel
theorem zd_MReader_single_61 : decode zb_MReader_single 61 = .ok (.aload_n 0, 1) := by decide +kernel
theorem zd_MReader_single_62 : decode zb_MReader_single 62 = .ok (.getfield 63, 3) := by decide +kernel
theorem zd_MReader_single_65 : decode zb_MReader_single 65 = .ok (.invokevirtual 38, 3) := by decide +kernel
theorem zd_MReader_single_68 : decode zb_MReader_single 68 = .ok (.aload_n 0, 1) := by decide +kernel
theorem zd_MReader_single_69 : decode zb_MReader_single 69 = .ok (.getfield 80, 3) := by decide +kernel
theorem zd_MReader_single_72 : decode zb_MReader_single 72 = .ok (.ireturn, 1) := by decide +kernel
theorem zw_1801 : (Jvm.Cond.methodLink "OrreryBoxModel$Reader" (83 : Nat) ({ cls := "OrreryBoxModel$Reader", name := "name", desc := "(Ljava/lang/String;)V" } : Jvm.MethodName)) ∈ gw := gw_t 1801 (by decide +kernel) rfl
theorem zw_1803 : (Jvm.Cond.instanceMethod ({ cls := "OrreryBoxModel$Reader", name := "name", desc := "(Ljava/lang/String;)V" } : Jvm.MethodName)) ∈ gw := gw_t 1803 (by decide +kernel) rfl
theorem zv_74 : (Jvm.Cond.selects "OrreryBoxModel$Reader" (⟨"OrreryBoxModel$Reader", "name", "(Ljava/lang/String;)V"⟩ : MethodName) ⟨"OrreryBoxModel$Reader", "name", "(Ljava/lang/String;)V"⟩) ∈ gw := gw_s 74 (by decide +kernel) rfl
theorem zs_MReader_83 : zwV "OrreryBoxModel$Reader" 83 "OrreryBoxModel$Reader" zy_MReader_name zb_MReader_name 2 none := ⟨zw_1801, zw_1803, zv_74, zw_15, zc_MReader_name⟩
theorem zw_1822 : (Jvm.Cond.methodLink "OrreryBoxModel$Reader" (87 : Nat) ({ cls := "OrreryBoxModel$Reader", name := "numberNext", desc := "()Z" } : Jvm.MethodName)) ∈ gw := gw_t 1822 (by decide +kernel) rfl
theorem zw_1824 : (Jvm.Cond.instanceMethod ({ cls := "OrreryBoxModel$Reader", name := "numberNext", desc := "()Z" } : Jvm.MethodName)) ∈ gw := gw_t 1824 (by decide +kernel) rfl
theorem zv_79 : (Jvm.Cond.selects "OrreryBoxModel$Reader" (⟨"OrreryBoxModel$Reader", "numberNext", "()Z"⟩ : MethodName) ⟨"OrreryBoxModel$Reader", "numberNext", "()Z"⟩) ∈ gw := gw_s 79 (by decide +kernel) rfl
theorem zs_MReader_87 : zwV "OrreryBoxModel$Reader" 87 "OrreryBoxModel$Reader" zy_MReader_numberNext zb_MReader_numberNext 2 (some .boolean) := ⟨zw_1822, zw_1824, zv_79, zw_15, zc_MReader_numberNext⟩
theorem zw_1829 : (Jvm.Cond.methodLink "OrreryBoxModel$Reader" (91 : Nat) ({ cls := "OrreryBoxModel$Reader", name := "takeNumber", desc := "()V" } : Jvm.MethodName)) ∈ gw := gw_t 1829 (by decide +kernel) rfl
theorem zw_1831 : (Jvm.Cond.instanceMethod ({ cls := "OrreryBoxModel$Reader", name := "takeNumber", desc := "()V" } : Jvm.MethodName)) ∈ gw := gw_t 1831 (by decide +kernel) rfl
theorem zv_80 : (Jvm.Cond.selects "OrreryBoxModel$Reader" (⟨"OrreryBoxModel$Reader", "takeNumber", "()V"⟩ : MethodName) ⟨"OrreryBoxModel$Reader", "takeNumber", "()V"⟩) ∈ gw := gw_s 80 (by decide +kernel) rfl
theorem zs_MReader_91 : zwV "OrreryBoxModel$Reader" 91 "OrreryBoxModel$Reader" zy_MReader_takeNumber zb_MReader_takeNumber 4 none := ⟨zw_1829, zw_1831, zv_80, zw_15, zc_MReader_takeNumber⟩
def F_MReader_single (sh : zSh) (mm : zMem) (o : Nat) (x0_ : Nat) (x1_ : Int32) (x2_ : Int32) : Option (Int32 × zMem) := zoS (sh o) 14 (fun le2 => Option.bind (F_MReader_name sh mm o x0_) (fun p3 => zoS (sh o) 14 (fun le5 => (if (p3.1 o 4) = 0 then zoS (sh o) 14 (fun le8 => Option.bind (F_MReader_numberNext sh p3 o) (fun p9 => (if p9.1 = 0 then zoS (sh o) 14 (fun le47 => zoS (sh o) 14 (fun le49 => Option.bind (F_MReader_fail sh (p9.2) o 1 ((p9.2).1 o 3)) (fun p50 => some (0, p50)))) else zoS (sh o) 14 (fun le12 => Option.bind (F_MReader_takeNumber sh (p9.2) o) (fun p13 => zoS (sh o) 14 (fun le15 => (if (p13.1 o 8) = 0 then zoS (sh o) 14 (fun le18 => zoS (sh o) 14 (fun le20 => Option.bind (F_MReader_fail sh p13 o 2 (p13.1 o 6)) (fun p21 => zoS (sh o) 14 (fun le23 => some ((p21.1 o 7), p21))))) else zoS (sh o) 14 (fun le25 => (if (p13.1 o 7) < x1_ then zoS (sh o) 14 (fun le28 => zoS (sh o) 14 (fun le30 => Option.bind (F_MReader_fail sh p13 o 2 (p13.1 o 6)) (fun p31 => zoS (sh o) 14 (fun le33 => some ((p31.1 o 7), p31))))) else zoS (sh o) 14 (fun le35 => (if (p13.1 o 7) ≤ x2_ then zoS (sh o) 14 (fun le38 => some ((p13.1 o 7), p13)) else zoS (sh o) 14 (fun le40 => zoS (sh o) 14 (fun le42 => Option.bind (F_MReader_fail sh p13 o 2 (p13.1 o 6)) (fun p43 => zoS (sh o) 14 (fun le45 => some ((p43.1 o 7), p43)))))))))))))))) else some (0, p3)))))
set_option maxHeartbeats 4000000 in
set_option maxRecDepth 100000 in
theorem k_MReader_single (l : Launch) (D : va_G) (tA : Nat → ClassId) (b : Nat) (sh : zSh) (n : Nat) {mm : zMem} {o : Nat} {x0_ : Nat} {x1_ : Int32} {x2_ : Int32} {r : (Int32 × zMem)} (h : F_MReader_single sh mm o x0_ x1_ x2_ = some r) : zM l D tA b zy_MReader_single zb_MReader_single 4 (some .int) 6 128 0 0 [.ref (b + o), .ref (D.2 1000 x0_), .int x1_, .int x2_] (zW tA b sh mm) n (zE (some (.int (r.1))) (zW tA b sh r.2) n) := by
  unfold F_MReader_single at h
  refine zM_of (own := "OrreryBoxModel$Reader") (plainFor_of_name (by decide)) rfl (Nat.le_of_ble_eq_true rfl) (fun p e s m below meth c F hr hin hH => ?_)
  refine zr_aload_n F zd_MReader_single_0 rfl ?_
  refine zr_aload_n F zd_MReader_single_1 rfl ?_
  obtain ⟨le2, hs1, h⟩ := zoS_s h
  obtain ⟨p3, ep3, h⟩ := zoB_s h
  refine zr_callV0 F (k_MReader_name l D tA b sh _ ep3) zd_MReader_single_2 (zW_o hs1 (by decide)) rfl zs_MReader_83 rfl zq_MReader_name rfl rfl ⟨(Nat.le_of_ble_eq_true rfl), (Nat.le_of_ble_eq_true rfl)⟩ (Nat.le_of_ble_eq_true rfl) ⟨(Nat.le_of_ble_eq_true rfl), (Nat.le_of_ble_eq_true rfl)⟩ ?_
  refine zr_aload_n F zd_MReader_single_5 rfl ?_
  obtain ⟨le5, hs4, h⟩ := zoS_s h
  refine zr_get F 14 4 zd_MReader_single_6 (zW_o hs4 (by decide)) rfl (by decide) zw_1508 rfl (by rfl) ?_
  refine zr_if_eq F 14 zd_MReader_single_9 (by decide) (fun hb6 => ?_) (fun hb6 => ?_)
  ·
    rw [if_pos hb6] at h
    refine zr_aload_n F zd_MReader_single_14 rfl ?_
    refine zr_pcn 15 rfl ?_
    obtain ⟨le8, hs7, h⟩ := zoS_s h
    obtain ⟨p9, ep9, h⟩ := zoB_s h
    refine zr_callV1 F (k_MReader_numberNext l D tA b sh _ ep9) zd_MReader_single_15 (zW_o hs7 (by decide)) rfl zs_MReader_87 rfl zq_MReader_numberNext rfl rfl ⟨(Nat.le_of_ble_eq_true rfl), (Nat.le_of_ble_eq_true rfl)⟩ (Nat.le_of_ble_eq_true rfl) ⟨(Nat.le_of_ble_eq_true rfl), (Nat.le_of_ble_eq_true rfl)⟩ ?_
    refine zr_if_ne F 32 zd_MReader_single_18 (by decide) (fun hb10 => ?_) (fun hb10 => ?_)
    ·
      rw [if_neg hb10] at h
      refine zr_aload_n F zd_MReader_single_32 rfl ?_
      obtain ⟨le12, hs11, h⟩ := zoS_s h
      obtain ⟨p13, ep13, h⟩ := zoB_s h
      refine zr_callV0 F (k_MReader_takeNumber l D tA b sh _ ep13) zd_MReader_single_33 (zW_o hs11 (by decide)) rfl zs_MReader_91 rfl zq_MReader_takeNumber rfl rfl ⟨(Nat.le_of_ble_eq_true rfl), (Nat.le_of_ble_eq_true rfl)⟩ (Nat.le_of_ble_eq_true rfl) ⟨(Nat.le_of_ble_eq_true rfl), (Nat.le_of_ble_eq_true rfl)⟩ ?_
      refine zr_aload_n F zd_MReader_single_36 rfl ?_
      obtain ⟨le15, hs14, h⟩ := zoS_s h
      refine zr_get F 14 8 zd_MReader_single_37 (zW_o hs14 (by decide)) rfl (by decide) zw_1514 rfl (by rfl) ?_
      refine zr_if_eq F 59 zd_MReader_single_40 (by decide) (fun hb16 => ?_) (fun hb16 => ?_)
      ·
        rw [if_pos hb16] at h
        refine zr_aload_n F zd_MReader_single_59 rfl ?_
        refine zr_pcn 60 rfl ?_
        refine zr_iconstv (v := 2) F zd_MReader_single_60 (by decide) ?_
        refine zr_aload_n F zd_MReader_single_61 rfl ?_
        obtain ⟨le18, hs17, h⟩ := zoS_s h
        refine zr_get F 14 6 zd_MReader_single_62 (zW_o hs17 (by decide)) rfl (by decide) zw_1512 rfl (by rfl) ?_
        obtain ⟨le20, hs19, h⟩ := zoS_s h
        obtain ⟨p21, ep21, h⟩ := zoB_s h
        refine zr_callV0 F (k_MReader_fail l D tA b sh _ ep21) zd_MReader_single_65 (zW_o hs19 (by decide)) rfl zs_MReader_38 rfl zq_MReader_fail rfl rfl ⟨(Nat.le_of_ble_eq_true rfl), (Nat.le_of_ble_eq_true rfl)⟩ (Nat.le_of_ble_eq_true rfl) ⟨(Nat.le_of_ble_eq_true rfl), (Nat.le_of_ble_eq_true rfl)⟩ ?_
        refine zr_aload_n F zd_MReader_single_68 rfl ?_
        obtain ⟨le23, hs22, h⟩ := zoS_s h
        refine zr_get F 14 7 zd_MReader_single_69 (zW_o hs22 (by decide)) rfl (by decide) zw_1513 rfl (by rfl) ?_
        obtain rfl := Option.some.inj h
        exact zr_iret F hr zd_MReader_single_72 (Nat.le_of_ble_eq_true rfl) (Nat.le_of_ble_eq_true rfl) ⟨rfl, rfl, rfl⟩
      ·
        rw [if_neg hb16] at h
        refine zr_aload_n F zd_MReader_single_43 rfl ?_
        refine zr_pcn 44 rfl ?_
        obtain ⟨le25, hs24, h⟩ := zoS_s h
        refine zr_get F 14 7 zd_MReader_single_44 (zW_o hs24 (by decide)) rfl (by decide) zw_1513 rfl (by rfl) ?_
        refine zr_iload_n F zd_MReader_single_47 rfl ?_
        refine zr_icmp_lt F 59 zd_MReader_single_48 (by decide) (fun hb26 => ?_) (fun hb26 => ?_)
        ·
          rw [if_pos hb26] at h
          refine zr_aload_n F zd_MReader_single_59 rfl ?_
          refine zr_iconstv (v := 2) F zd_MReader_single_60 (by decide) ?_
          refine zr_aload_n F zd_MReader_single_61 rfl ?_
          obtain ⟨le28, hs27, h⟩ := zoS_s h
          refine zr_get F 14 6 zd_MReader_single_62 (zW_o hs27 (by decide)) rfl (by decide) zw_1512 rfl (by rfl) ?_
          obtain ⟨le30, hs29, h⟩ := zoS_s h
          obtain ⟨p31, ep31, h⟩ := zoB_s h
          refine zr_callV0 F (k_MReader_fail l D tA b sh _ ep31) zd_MReader_single_65 (zW_o hs29 (by decide)) rfl zs_MReader_38 rfl zq_MReader_fail rfl rfl ⟨(Nat.le_of_ble_eq_true rfl), (Nat.le_of_ble_eq_true rfl)⟩ (Nat.le_of_ble_eq_true rfl) ⟨(Nat.le_of_ble_eq_true rfl), (Nat.le_of_ble_eq_true rfl)⟩ ?_
          refine zr_pcn 68 rfl ?_
          refine zr_aload_n F zd_MReader_single_68 rfl ?_
          obtain ⟨le33, hs32, h⟩ := zoS_s h
          refine zr_get F 14 7 zd_MReader_single_69 (zW_o hs32 (by decide)) rfl (by decide) zw_1513 rfl (by rfl) ?_
          obtain rfl := Option.some.inj h
          exact zr_iret F hr zd_MReader_single_72 (Nat.le_of_ble_eq_true rfl) (Nat.le_of_ble_eq_true rfl) ⟨rfl, rfl, rfl⟩
        ·
          rw [if_neg hb26] at h
          refine zr_aload_n F zd_MReader_single_51 rfl ?_
          obtain ⟨le35, hs34, h⟩ := zoS_s h
          refine zr_get F 14 7 zd_MReader_single_52 (zW_o hs34 (by decide)) rfl (by decide) zw_1513 rfl (by rfl) ?_
          refine zr_iload_n F zd_MReader_single_55 rfl ?_
          refine zr_icmp_le F 68 zd_MReader_single_56 (by decide) (fun hb36 => ?_) (fun hb36 => ?_)
          ·
            rw [if_pos hb36] at h
            refine zr_aload_n F zd_MReader_single_68 rfl ?_
            refine zr_pcn 69 rfl ?_
            obtain ⟨le38, hs37, h⟩ := zoS_s h
            refine zr_get F 14 7 zd_MReader_single_69 (zW_o hs37 (by decide)) rfl (by decide) zw_1513 rfl (by rfl) ?_
            obtain rfl := Option.some.inj h
            exact zr_iret F hr zd_MReader_single_72 (Nat.le_of_ble_eq_true rfl) (Nat.le_of_ble_eq_true rfl) ⟨rfl, rfl, rfl⟩
          ·
            rw [if_neg hb36] at h
            refine zr_aload_n F zd_MReader_single_59 rfl ?_
            refine zr_iconstv (v := 2) F zd_MReader_single_60 (by decide) ?_
            refine zr_aload_n F zd_MReader_single_61 rfl ?_
            obtain ⟨le40, hs39, h⟩ := zoS_s h
            refine zr_get F 14 6 zd_MReader_single_62 (zW_o hs39 (by decide)) rfl (by decide) zw_1512 rfl (by rfl) ?_
            obtain ⟨le42, hs41, h⟩ := zoS_s h
            obtain ⟨p43, ep43, h⟩ := zoB_s h
            refine zr_callV0 F (k_MReader_fail l D tA b sh _ ep43) zd_MReader_single_65 (zW_o hs41 (by decide)) rfl zs_MReader_38 rfl zq_MReader_fail rfl rfl ⟨(Nat.le_of_ble_eq_true rfl), (Nat.le_of_ble_eq_true rfl)⟩ (Nat.le_of_ble_eq_true rfl) ⟨(Nat.le_of_ble_eq_true rfl), (Nat.le_of_ble_eq_true rfl)⟩ ?_
            refine zr_aload_n F zd_MReader_single_68 rfl ?_
            refine zr_pcn 69 rfl ?_
            obtain ⟨le45, hs44, h⟩ := zoS_s h
            refine zr_get F 14 7 zd_MReader_single_69 (zW_o hs44 (by decide)) rfl (by decide) zw_1513 rfl (by rfl) ?_
            obtain rfl := Option.some.inj h
            exact zr_iret F hr zd_MReader_single_72 (Nat.le_of_ble_eq_true rfl) (Nat.le_of_ble_eq_true rfl) ⟨rfl, rfl, rfl⟩
    ·
      rw [if_pos hb10] at h
      refine zr_aload_n F zd_MReader_single_21 rfl ?_
      refine zr_iconstv (v := 1) F zd_MReader_single_22 (by decide) ?_
      refine zr_aload_n F zd_MReader_single_23 rfl ?_
      obtain ⟨le47, hs46, h⟩ := zoS_s h
      refine zr_get F 14 3 zd_MReader_single_24 (zW_o hs46 (by decide)) rfl (by decide) zw_1507 rfl (by rfl) ?_
      obtain ⟨le49, hs48, h⟩ := zoS_s h
      obtain ⟨p50, ep50, h⟩ := zoB_s h
      refine zr_callV0 F (k_MReader_fail l D tA b sh _ ep50) zd_MReader_single_27 (zW_o hs48 (by decide)) rfl zs_MReader_38 rfl zq_MReader_fail rfl rfl ⟨(Nat.le_of_ble_eq_true rfl), (Nat.le_of_ble_eq_true rfl)⟩ (Nat.le_of_ble_eq_true rfl) ⟨(Nat.le_of_ble_eq_true rfl), (Nat.le_of_ble_eq_true rfl)⟩ ?_
      refine zr_iconstv (v := 0) F zd_MReader_single_30 (by decide) ?_
      refine zr_pcn 31 rfl ?_
      obtain rfl := Option.some.inj h
      exact zr_iret F hr zd_MReader_single_31 (Nat.le_of_ble_eq_true rfl) (Nat.le_of_ble_eq_true rfl) ⟨rfl, rfl, rfl⟩
  ·
    rw [if_neg hb6] at h
    refine zr_iconstv (v := 0) F zd_MReader_single_12 (by decide) ?_
    obtain rfl := Option.some.inj h
    exact zr_iret F hr zd_MReader_single_13 (Nat.le_of_ble_eq_true rfl) (Nat.le_of_ble_eq_true rfl) ⟨rfl, rfl, rfl⟩
def F_MReader_fits (sh : zSh) (mm : zMem) (o : Nat) (x0_ : Int32) (x1_ : Int32) (x2_ : Int32) : Option (Int32 × zMem) := (if x0_ = 0 then zoS (sh o) 14 (fun le3 => (if (mm.1 o 7) < 0 then some (0, mm) else zoS (sh o) 14 (fun le6 => (if 255 < (mm.1 o 7) then some (0, mm) else some (1, mm))))) else (if x0_ = 1 then zoS (sh o) 14 (fun le9 => (if (mm.1 o 7) < (-1048576) then some (0, mm) else zoS (sh o) 14 (fun le12 => (if 1048576 < (mm.1 o 7) then some (0, mm) else some (1, mm))))) else (if x0_ = 2 then zoS (sh o) 14 (fun le15 => (if (mm.1 o 7) < (-65536) then some (0, mm) else zoS (sh o) 14 (fun le18 => (if 65536 < (mm.1 o 7) then some (0, mm) else some (1, mm))))) else (if x0_ = 3 then zoS (sh o) 14 (fun le21 => (if (mm.1 o 7) < (-131072) then some (0, mm) else zoS (sh o) 14 (fun le24 => (if 131072 < (mm.1 o 7) then some (0, mm) else some (1, mm))))) else (if x0_ = 4 then zoS (sh o) 14 (fun le27 => (if (mm.1 o 7) < 0 then some (0, mm) else zoS (sh o) 14 (fun le30 => (if x2_ ≤ (mm.1 o 7) then some (0, mm) else some (1, mm))))) else (if x0_ = 5 then zoS (sh o) 14 (fun le33 => (if (mm.1 o 7) < (-4194304) then some (0, mm) else zoS (sh o) 14 (fun le36 => (if 4194304 < (mm.1 o 7) then some (0, mm) else some (1, mm))))) else (if x0_ = 6 then zoS (sh o) 14 (fun le39 => (if (mm.1 o 7) < (-1048576) then some (0, mm) else zoS (sh o) 14 (fun le42 => (if 1048576 < (mm.1 o 7) then some (0, mm) else some (1, mm))))) else zoS (sh o) 14 (fun le45 => (if (mm.1 o 7) < 0 then some (0, mm) else zoS (sh o) 14 (fun le48 => (if 1000000 < (mm.1 o 7) then some (0, mm) else zoS (sh o) 14 (fun le51 => (if (mm.1 o 7) ≤ x1_ then some (0, mm) else some (1, mm))))))))))))))
set_option maxHeartbeats 4000000 in
set_option maxRecDepth 100000 in
theorem k_MReader_fits (l : Launch) (D : va_G) (tA : Nat → ClassId) (b : Nat) (sh : zSh) (n : Nat) {mm : zMem} {o : Nat} {x0_ : Int32} {x1_ : Int32} {x2_ : Int32} {r : (Int32 × zMem)} (h : F_MReader_fits sh mm o x0_ x1_ x2_ = some r) : zM l D tA b zy_MReader_fits zb_MReader_fits 4 (some .boolean) 0 0 0 0 [.ref (b + o), .int x0_, .int x1_, .int x2_] (zW tA b sh mm) n (zE (some (.int (r.1))) (zW tA b sh r.2) n) := by
  unfold F_MReader_fits at h
  refine zM_of (own := "OrreryBoxModel$Reader") (plainFor_of_name (by decide)) rfl (Nat.le_of_ble_eq_true rfl) (fun p e s m below meth c F hr hin hH => ?_)
  refine zr_iload_n F zd_MReader_fits_0 rfl ?_
  by_cases hb1_0 : x0_ = 0
  ·
    rw [if_pos hb1_0] at h
    refine zr_tableIn F 44 zd_MReader_fits_1 (by rw [hb1_0]; decide) (by rw [hb1_0]; decide) (by rw [hb1_0]; rfl) (by decide) ?_
    refine zr_aload_n F zd_MReader_fits_44 rfl ?_
    obtain ⟨le3, hs2, h⟩ := zoS_s h
    refine zr_get F 14 7 zd_MReader_fits_45 (zW_o hs2 (by decide)) rfl (by decide) zw_1513 rfl (by rfl) ?_
    refine zr_if_lt F 65 zd_MReader_fits_48 (by decide) (fun hb4 => ?_) (fun hb4 => ?_)
    ·
      rw [if_pos hb4] at h
      refine zr_iconstv (v := 0) F zd_MReader_fits_65 (by decide) ?_
      obtain rfl := Option.some.inj h
      exact zr_zret F hr rfl zd_MReader_fits_66 (Nat.le_of_ble_eq_true rfl) (Nat.le_of_ble_eq_true rfl) ⟨rfl, rfl, rfl⟩
    ·
      rw [if_neg hb4] at h
      refine zr_pcn 51 rfl ?_
      refine zr_aload_n F zd_MReader_fits_51 rfl ?_
      obtain ⟨le6, hs5, h⟩ := zoS_s h
      refine zr_get F 14 7 zd_MReader_fits_52 (zW_o hs5 (by decide)) rfl (by decide) zw_1513 rfl (by rfl) ?_
      refine zr_sipushv (v := 255) F zd_MReader_fits_55 (by decide) ?_
      refine zr_icmp_gt F 65 zd_MReader_fits_58 (by decide) (fun hb7 => ?_) (fun hb7 => ?_)
      ·
        rw [if_pos hb7] at h
        refine zr_iconstv (v := 0) F zd_MReader_fits_65 (by decide) ?_
        obtain rfl := Option.some.inj h
        exact zr_zret F hr rfl zd_MReader_fits_66 (Nat.le_of_ble_eq_true rfl) (Nat.le_of_ble_eq_true rfl) ⟨rfl, rfl, rfl⟩
      ·
        rw [if_neg hb7] at h
        refine zr_iconstv (v := 1) F zd_MReader_fits_61 (by decide) ?_
        refine zr_goto F 66 zd_MReader_fits_62 (by decide) ?_
        refine zr_pcn 66 rfl ?_
        obtain rfl := Option.some.inj h
        exact zr_zret F hr rfl zd_MReader_fits_66 (Nat.le_of_ble_eq_true rfl) (Nat.le_of_ble_eq_true rfl) ⟨rfl, rfl, rfl⟩
  ·
    rw [if_neg hb1_0] at h
    by_cases hb1_1 : x0_ = 1
    ·
      rw [if_pos hb1_1] at h
      refine zr_tableIn F 67 zd_MReader_fits_1 (by rw [hb1_1]; decide) (by rw [hb1_1]; decide) (by rw [hb1_1]; rfl) (by decide) ?_
      refine zr_aload_n F zd_MReader_fits_67 rfl ?_
      obtain ⟨le9, hs8, h⟩ := zoS_s h
      refine zr_get F 14 7 zd_MReader_fits_68 (zW_o hs8 (by decide)) rfl (by decide) zw_1513 rfl (by rfl) ?_
      refine zr_ldc F zd_MReader_fits_71 zw_1849 ?_
      refine zr_icmp_lt F 89 zd_MReader_fits_73 (by decide) (fun hb10 => ?_) (fun hb10 => ?_)
      ·
        rw [if_pos hb10] at h
        refine zr_iconstv (v := 0) F zd_MReader_fits_89 (by decide) ?_
        obtain rfl := Option.some.inj h
        exact zr_zret F hr rfl zd_MReader_fits_90 (Nat.le_of_ble_eq_true rfl) (Nat.le_of_ble_eq_true rfl) ⟨rfl, rfl, rfl⟩
      ·
        rw [if_neg hb10] at h
        refine zr_aload_n F zd_MReader_fits_76 rfl ?_
        refine zr_pcn 77 rfl ?_
        obtain ⟨le12, hs11, h⟩ := zoS_s h
        refine zr_get F 14 7 zd_MReader_fits_77 (zW_o hs11 (by decide)) rfl (by decide) zw_1513 rfl (by rfl) ?_
        refine zr_ldc F zd_MReader_fits_80 zw_1850 ?_
        refine zr_icmp_gt F 89 zd_MReader_fits_82 (by decide) (fun hb13 => ?_) (fun hb13 => ?_)
        ·
          rw [if_pos hb13] at h
          refine zr_iconstv (v := 0) F zd_MReader_fits_89 (by decide) ?_
          obtain rfl := Option.some.inj h
          exact zr_zret F hr rfl zd_MReader_fits_90 (Nat.le_of_ble_eq_true rfl) (Nat.le_of_ble_eq_true rfl) ⟨rfl, rfl, rfl⟩
        ·
          rw [if_neg hb13] at h
          refine zr_iconstv (v := 1) F zd_MReader_fits_85 (by decide) ?_
          refine zr_goto F 90 zd_MReader_fits_86 (by decide) ?_
          obtain rfl := Option.some.inj h
          exact zr_zret F hr rfl zd_MReader_fits_90 (Nat.le_of_ble_eq_true rfl) (Nat.le_of_ble_eq_true rfl) ⟨rfl, rfl, rfl⟩
    ·
      rw [if_neg hb1_1] at h
      by_cases hb1_2 : x0_ = 2
      ·
        rw [if_pos hb1_2] at h
        refine zr_tableIn F 91 zd_MReader_fits_1 (by rw [hb1_2]; decide) (by rw [hb1_2]; decide) (by rw [hb1_2]; rfl) (by decide) ?_
        refine zr_pcn 91 rfl ?_
        refine zr_aload_n F zd_MReader_fits_91 rfl ?_
        obtain ⟨le15, hs14, h⟩ := zoS_s h
        refine zr_get F 14 7 zd_MReader_fits_92 (zW_o hs14 (by decide)) rfl (by decide) zw_1513 rfl (by rfl) ?_
        refine zr_ldc F zd_MReader_fits_95 zw_1851 ?_
        refine zr_icmp_lt F 113 zd_MReader_fits_97 (by decide) (fun hb16 => ?_) (fun hb16 => ?_)
        ·
          rw [if_pos hb16] at h
          refine zr_iconstv (v := 0) F zd_MReader_fits_113 (by decide) ?_
          obtain rfl := Option.some.inj h
          exact zr_zret F hr rfl zd_MReader_fits_114 (Nat.le_of_ble_eq_true rfl) (Nat.le_of_ble_eq_true rfl) ⟨rfl, rfl, rfl⟩
        ·
          rw [if_neg hb16] at h
          refine zr_aload_n F zd_MReader_fits_100 rfl ?_
          obtain ⟨le18, hs17, h⟩ := zoS_s h
          refine zr_get F 14 7 zd_MReader_fits_101 (zW_o hs17 (by decide)) rfl (by decide) zw_1513 rfl (by rfl) ?_
          refine zr_pcn 104 rfl ?_
          refine zr_ldc F zd_MReader_fits_104 zw_1852 ?_
          refine zr_icmp_gt F 113 zd_MReader_fits_106 (by decide) (fun hb19 => ?_) (fun hb19 => ?_)
          ·
            rw [if_pos hb19] at h
            refine zr_iconstv (v := 0) F zd_MReader_fits_113 (by decide) ?_
            obtain rfl := Option.some.inj h
            exact zr_zret F hr rfl zd_MReader_fits_114 (Nat.le_of_ble_eq_true rfl) (Nat.le_of_ble_eq_true rfl) ⟨rfl, rfl, rfl⟩
          ·
            rw [if_neg hb19] at h
            refine zr_iconstv (v := 1) F zd_MReader_fits_109 (by decide) ?_
            refine zr_goto F 114 zd_MReader_fits_110 (by decide) ?_
            obtain rfl := Option.some.inj h
            exact zr_zret F hr rfl zd_MReader_fits_114 (Nat.le_of_ble_eq_true rfl) (Nat.le_of_ble_eq_true rfl) ⟨rfl, rfl, rfl⟩
      ·
        rw [if_neg hb1_2] at h
        by_cases hb1_3 : x0_ = 3
        ·
          rw [if_pos hb1_3] at h
          refine zr_tableIn F 115 zd_MReader_fits_1 (by rw [hb1_3]; decide) (by rw [hb1_3]; decide) (by rw [hb1_3]; rfl) (by decide) ?_
          refine zr_aload_n F zd_MReader_fits_115 rfl ?_
          refine zr_pcn 116 rfl ?_
          obtain ⟨le21, hs20, h⟩ := zoS_s h
          refine zr_get F 14 7 zd_MReader_fits_116 (zW_o hs20 (by decide)) rfl (by decide) zw_1513 rfl (by rfl) ?_
          refine zr_ldc F zd_MReader_fits_119 zw_1853 ?_
          refine zr_icmp_lt F 137 zd_MReader_fits_121 (by decide) (fun hb22 => ?_) (fun hb22 => ?_)
          ·
            rw [if_pos hb22] at h
            refine zr_iconstv (v := 0) F zd_MReader_fits_137 (by decide) ?_
            obtain rfl := Option.some.inj h
            exact zr_zret F hr rfl zd_MReader_fits_138 (Nat.le_of_ble_eq_true rfl) (Nat.le_of_ble_eq_true rfl) ⟨rfl, rfl, rfl⟩
          ·
            rw [if_neg hb22] at h
            refine zr_aload_n F zd_MReader_fits_124 rfl ?_
            obtain ⟨le24, hs23, h⟩ := zoS_s h
            refine zr_get F 14 7 zd_MReader_fits_125 (zW_o hs23 (by decide)) rfl (by decide) zw_1513 rfl (by rfl) ?_
            refine zr_ldc F zd_MReader_fits_128 zw_1854 ?_
            refine zr_pcn 130 rfl ?_
            refine zr_icmp_gt F 137 zd_MReader_fits_130 (by decide) (fun hb25 => ?_) (fun hb25 => ?_)
            ·
              rw [if_pos hb25] at h
              refine zr_iconstv (v := 0) F zd_MReader_fits_137 (by decide) ?_
              obtain rfl := Option.some.inj h
              exact zr_zret F hr rfl zd_MReader_fits_138 (Nat.le_of_ble_eq_true rfl) (Nat.le_of_ble_eq_true rfl) ⟨rfl, rfl, rfl⟩
            ·
              rw [if_neg hb25] at h
              refine zr_iconstv (v := 1) F zd_MReader_fits_133 (by decide) ?_
              refine zr_goto F 138 zd_MReader_fits_134 (by decide) ?_
              obtain rfl := Option.some.inj h
              exact zr_zret F hr rfl zd_MReader_fits_138 (Nat.le_of_ble_eq_true rfl) (Nat.le_of_ble_eq_true rfl) ⟨rfl, rfl, rfl⟩
        ·
          rw [if_neg hb1_3] at h
          by_cases hb1_4 : x0_ = 4
          ·
            rw [if_pos hb1_4] at h
            refine zr_tableIn F 139 zd_MReader_fits_1 (by rw [hb1_4]; decide) (by rw [hb1_4]; decide) (by rw [hb1_4]; rfl) (by decide) ?_
            refine zr_aload_n F zd_MReader_fits_139 rfl ?_
            obtain ⟨le27, hs26, h⟩ := zoS_s h
            refine zr_get F 14 7 zd_MReader_fits_140 (zW_o hs26 (by decide)) rfl (by decide) zw_1513 rfl (by rfl) ?_
            refine zr_pcn 143 rfl ?_
            refine zr_if_lt F 158 zd_MReader_fits_143 (by decide) (fun hb28 => ?_) (fun hb28 => ?_)
            ·
              rw [if_pos hb28] at h
              refine zr_iconstv (v := 0) F zd_MReader_fits_158 (by decide) ?_
              obtain rfl := Option.some.inj h
              exact zr_zret F hr rfl zd_MReader_fits_159 (Nat.le_of_ble_eq_true rfl) (Nat.le_of_ble_eq_true rfl) ⟨rfl, rfl, rfl⟩
            ·
              rw [if_neg hb28] at h
              refine zr_aload_n F zd_MReader_fits_146 rfl ?_
              obtain ⟨le30, hs29, h⟩ := zoS_s h
              refine zr_get F 14 7 zd_MReader_fits_147 (zW_o hs29 (by decide)) rfl (by decide) zw_1513 rfl (by rfl) ?_
              refine zr_iload_n F zd_MReader_fits_150 rfl ?_
              refine zr_icmp_ge F 158 zd_MReader_fits_151 (by decide) (fun hb31 => ?_) (fun hb31 => ?_)
              ·
                rw [if_pos hb31] at h
                refine zr_iconstv (v := 0) F zd_MReader_fits_158 (by decide) ?_
                refine zr_pcn 159 rfl ?_
                obtain rfl := Option.some.inj h
                exact zr_zret F hr rfl zd_MReader_fits_159 (Nat.le_of_ble_eq_true rfl) (Nat.le_of_ble_eq_true rfl) ⟨rfl, rfl, rfl⟩
              ·
                rw [if_neg hb31] at h
                refine zr_iconstv (v := 1) F zd_MReader_fits_154 (by decide) ?_
                refine zr_goto F 159 zd_MReader_fits_155 (by decide) ?_
                obtain rfl := Option.some.inj h
                exact zr_zret F hr rfl zd_MReader_fits_159 (Nat.le_of_ble_eq_true rfl) (Nat.le_of_ble_eq_true rfl) ⟨rfl, rfl, rfl⟩
          ·
            rw [if_neg hb1_4] at h
            by_cases hb1_5 : x0_ = 5
            ·
              rw [if_pos hb1_5] at h
              refine zr_tableIn F 160 zd_MReader_fits_1 (by rw [hb1_5]; decide) (by rw [hb1_5]; decide) (by rw [hb1_5]; rfl) (by decide) ?_
              refine zr_aload_n F zd_MReader_fits_160 rfl ?_
              obtain ⟨le33, hs32, h⟩ := zoS_s h
              refine zr_get F 14 7 zd_MReader_fits_161 (zW_o hs32 (by decide)) rfl (by decide) zw_1513 rfl (by rfl) ?_
              refine zr_ldc F zd_MReader_fits_164 zw_1855 ?_
              refine zr_icmp_lt F 182 zd_MReader_fits_166 (by decide) (fun hb34 => ?_) (fun hb34 => ?_)
              ·
                rw [if_pos hb34] at h
                refine zr_pcn 182 rfl ?_
                refine zr_iconstv (v := 0) F zd_MReader_fits_182 (by decide) ?_
                obtain rfl := Option.some.inj h
                exact zr_zret F hr rfl zd_MReader_fits_183 (Nat.le_of_ble_eq_true rfl) (Nat.le_of_ble_eq_true rfl) ⟨rfl, rfl, rfl⟩
              ·
                rw [if_neg hb34] at h
                refine zr_aload_n F zd_MReader_fits_169 rfl ?_
                obtain ⟨le36, hs35, h⟩ := zoS_s h
                refine zr_get F 14 7 zd_MReader_fits_170 (zW_o hs35 (by decide)) rfl (by decide) zw_1513 rfl (by rfl) ?_
                refine zr_ldc F zd_MReader_fits_173 zw_1856 ?_
                refine zr_icmp_gt F 182 zd_MReader_fits_175 (by decide) (fun hb37 => ?_) (fun hb37 => ?_)
                ·
                  rw [if_pos hb37] at h
                  refine zr_iconstv (v := 0) F zd_MReader_fits_182 (by decide) ?_
                  obtain rfl := Option.some.inj h
                  exact zr_zret F hr rfl zd_MReader_fits_183 (Nat.le_of_ble_eq_true rfl) (Nat.le_of_ble_eq_true rfl) ⟨rfl, rfl, rfl⟩
                ·
                  rw [if_neg hb37] at h
                  refine zr_pcn 178 rfl ?_
                  refine zr_iconstv (v := 1) F zd_MReader_fits_178 (by decide) ?_
                  refine zr_goto F 183 zd_MReader_fits_179 (by decide) ?_
                  obtain rfl := Option.some.inj h
                  exact zr_zret F hr rfl zd_MReader_fits_183 (Nat.le_of_ble_eq_true rfl) (Nat.le_of_ble_eq_true rfl) ⟨rfl, rfl, rfl⟩
            ·
              rw [if_neg hb1_5] at h
              by_cases hb1_6 : x0_ = 6
              ·
                rw [if_pos hb1_6] at h
                refine zr_tableIn F 184 zd_MReader_fits_1 (by rw [hb1_6]; decide) (by rw [hb1_6]; decide) (by rw [hb1_6]; rfl) (by decide) ?_
                refine zr_aload_n F zd_MReader_fits_184 rfl ?_
                obtain ⟨le39, hs38, h⟩ := zoS_s h
                refine zr_get F 14 7 zd_MReader_fits_185 (zW_o hs38 (by decide)) rfl (by decide) zw_1513 rfl (by rfl) ?_
                refine zr_ldc F zd_MReader_fits_188 zw_1849 ?_
                refine zr_icmp_lt F 206 zd_MReader_fits_190 (by decide) (fun hb40 => ?_) (fun hb40 => ?_)
                ·
                  rw [if_pos hb40] at h
                  refine zr_iconstv (v := 0) F zd_MReader_fits_206 (by decide) ?_
                  refine zr_pcn 207 rfl ?_
                  obtain rfl := Option.some.inj h
                  exact zr_zret F hr rfl zd_MReader_fits_207 (Nat.le_of_ble_eq_true rfl) (Nat.le_of_ble_eq_true rfl) ⟨rfl, rfl, rfl⟩
                ·
                  rw [if_neg hb40] at h
                  refine zr_aload_n F zd_MReader_fits_193 rfl ?_
                  obtain ⟨le42, hs41, h⟩ := zoS_s h
                  refine zr_get F 14 7 zd_MReader_fits_194 (zW_o hs41 (by decide)) rfl (by decide) zw_1513 rfl (by rfl) ?_
                  refine zr_ldc F zd_MReader_fits_197 zw_1850 ?_
                  refine zr_icmp_gt F 206 zd_MReader_fits_199 (by decide) (fun hb43 => ?_) (fun hb43 => ?_)
                  ·
                    rw [if_pos hb43] at h
                    refine zr_iconstv (v := 0) F zd_MReader_fits_206 (by decide) ?_
                    obtain rfl := Option.some.inj h
                    exact zr_zret F hr rfl zd_MReader_fits_207 (Nat.le_of_ble_eq_true rfl) (Nat.le_of_ble_eq_true rfl) ⟨rfl, rfl, rfl⟩
                  ·
                    rw [if_neg hb43] at h
                    refine zr_iconstv (v := 1) F zd_MReader_fits_202 (by decide) ?_
                    refine zr_pcn 203 rfl ?_
                    refine zr_goto F 207 zd_MReader_fits_203 (by decide) ?_
                    obtain rfl := Option.some.inj h
                    exact zr_zret F hr rfl zd_MReader_fits_207 (Nat.le_of_ble_eq_true rfl) (Nat.le_of_ble_eq_true rfl) ⟨rfl, rfl, rfl⟩
              ·
                rw [if_neg hb1_6] at h
                refine zr_tableOut F 208 zd_MReader_fits_1 (zx_out x0_ 0 6 (by decide) (by decide) (by decide) (by omega) (fun j hj => by match j, hj with | 0, _ => exact hb1_0 | 1, _ => exact hb1_1 | 2, _ => exact hb1_2 | 3, _ => exact hb1_3 | 4, _ => exact hb1_4 | 5, _ => exact hb1_5 | 6, _ => exact hb1_6 | j + 7, hq => exact absurd hq (by omega))) (by decide) ?_
                refine zr_aload_n F zd_MReader_fits_208 rfl ?_
                obtain ⟨le45, hs44, h⟩ := zoS_s h
                refine zr_get F 14 7 zd_MReader_fits_209 (zW_o hs44 (by decide)) rfl (by decide) zw_1513 rfl (by rfl) ?_
                refine zr_if_lt F 236 zd_MReader_fits_212 (by decide) (fun hb46 => ?_) (fun hb46 => ?_)
                ·
                  rw [if_pos hb46] at h
                  refine zr_iconstv (v := 0) F zd_MReader_fits_236 (by decide) ?_
                  obtain rfl := Option.some.inj h
                  exact zr_zret F hr rfl zd_MReader_fits_237 (Nat.le_of_ble_eq_true rfl) (Nat.le_of_ble_eq_true rfl) ⟨rfl, rfl, rfl⟩
                ·
                  rw [if_neg hb46] at h
                  refine zr_aload_n F zd_MReader_fits_215 rfl ?_
                  refine zr_pcn 216 rfl ?_
                  obtain ⟨le48, hs47, h⟩ := zoS_s h
                  refine zr_get F 14 7 zd_MReader_fits_216 (zW_o hs47 (by decide)) rfl (by decide) zw_1513 rfl (by rfl) ?_
                  refine zr_ldc F zd_MReader_fits_219 zw_1857 ?_
                  refine zr_icmp_gt F 236 zd_MReader_fits_221 (by decide) (fun hb49 => ?_) (fun hb49 => ?_)
                  ·
                    rw [if_pos hb49] at h
                    refine zr_iconstv (v := 0) F zd_MReader_fits_236 (by decide) ?_
                    obtain rfl := Option.some.inj h
                    exact zr_zret F hr rfl zd_MReader_fits_237 (Nat.le_of_ble_eq_true rfl) (Nat.le_of_ble_eq_true rfl) ⟨rfl, rfl, rfl⟩
                  ·
                    rw [if_neg hb49] at h
                    refine zr_aload_n F zd_MReader_fits_224 rfl ?_
                    obtain ⟨le51, hs50, h⟩ := zoS_s h
                    refine zr_get F 14 7 zd_MReader_fits_225 (zW_o hs50 (by decide)) rfl (by decide) zw_1513 rfl (by rfl) ?_
                    refine zr_iload_n F zd_MReader_fits_228 rfl ?_
                    refine zr_pcn 229 rfl ?_
                    refine zr_icmp_le F 236 zd_MReader_fits_229 (by decide) (fun hb52 => ?_) (fun hb52 => ?_)
                    ·
                      rw [if_pos hb52] at h
                      refine zr_iconstv (v := 0) F zd_MReader_fits_236 (by decide) ?_
                      obtain rfl := Option.some.inj h
                      exact zr_zret F hr rfl zd_MReader_fits_237 (Nat.le_of_ble_eq_true rfl) (Nat.le_of_ble_eq_true rfl) ⟨rfl, rfl, rfl⟩
                    ·
                      rw [if_neg hb52] at h
                      refine zr_iconstv (v := 1) F zd_MReader_fits_232 (by decide) ?_
                      refine zr_goto F 237 zd_MReader_fits_233 (by decide) ?_
                      obtain rfl := Option.some.inj h
                      exact zr_zret F hr rfl zd_MReader_fits_237 (Nat.le_of_ble_eq_true rfl) (Nat.le_of_ble_eq_true rfl) ⟨rfl, rfl, rfl⟩
