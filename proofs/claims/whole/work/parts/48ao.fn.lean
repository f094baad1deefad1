abbrev zb_XReader_readMaterial : ByteArray := prog_8_method_6_code
def zy_XReader_readMaterial : MethodName := ⟨"OrreryBox$Reader", "readMaterial", "([I)V"⟩
theorem zc_XReader_readMaterial : Cond.code zy_XReader_readMaterial zb_XReader_readMaterial 2 none ∈ gw := gw_t 1246 (by decide +kernel) rfl
theorem zq_XReader_readMaterial : zy_XReader_readMaterial.cls ≠ "java/lang/invoke/MethodHandle" ∧ zy_XReader_readMaterial.cls ≠ "java/lang/invoke/VarHandle" ∧ (parseMethodDescriptor zy_XReader_readMaterial.desc).map (fun d => d.parameters.length) = some 1 := by decide +kernel
theorem zd_XReader_readMaterial_0 : decode zb_XReader_readMaterial 0 = .ok (.aload_n 0, 1) := by decide +kernel
theorem zd_XReader_readMaterial_1 : decode zb_XReader_readMaterial 1 = .ok (.ldc 167, 2) := by decide +kernel
theorem zd_XReader_readMaterial_3 : decode zb_XReader_readMaterial 3 = .ok (.iconst 4, 1) := by decide +kernel
theorem zd_XReader_readMaterial_4 : decode zb_XReader_readMaterial 4 = .ok (.iconst 4, 1) := by decide +kernel
theorem zd_XReader_readMaterial_5 : decode zb_XReader_readMaterial 5 = .ok (.iconst 0, 1) := by decide +kernel
theorem zd_XReader_readMaterial_6 : decode zb_XReader_readMaterial 6 = .ok (.sipush 255, 3) := by decide +kernel
theorem zd_XReader_readMaterial_9 : decode zb_XReader_readMaterial 9 = .ok (.iconst 0, 1) := by decide +kernel
theorem zd_XReader_readMaterial_10 : decode zb_XReader_readMaterial 10 = .ok (.invokevirtual 160, 3) := by decide +kernel
theorem zd_XReader_readMaterial_13 : decode zb_XReader_readMaterial 13 = .ok (.pop, 1) := by decide +kernel
theorem zd_XReader_readMaterial_14 : decode zb_XReader_readMaterial 14 = .ok (.aload_n 0, 1) := by decide +kernel
theorem zd_XReader_readMaterial_15 : decode zb_XReader_readMaterial 15 = .ok (.getfield 9, 3) := by decide +kernel
theorem zd_XReader_readMaterial_18 : decode zb_XReader_readMaterial 18 = .ok (.iconst 0, 1) := by decide +kernel
theorem zd_XReader_readMaterial_19 : decode zb_XReader_readMaterial 19 = .ok (.aload_n 1, 1) := by decide +kernel
theorem zd_XReader_readMaterial_20 : decode zb_XReader_readMaterial 20 = .ok (.iconst 0, 1) := by decide +kernel
theorem zd_XReader_readMaterial_21 : decode zb_XReader_readMaterial 21 = .ok (.iconst 4, 1) := by decide +kernel
theorem zd_XReader_readMaterial_22 : decode zb_XReader_readMaterial 22 = .ok (.invokestatic 169, 3) := by decide +kernel
theorem zd_XReader_readMaterial_25 : decode zb_XReader_readMaterial 25 = .ok (.aload_n 0, 1) := by decide +kernel
theorem zd_XReader_readMaterial_26 : decode zb_XReader_readMaterial 26 = .ok (.bipush 44, 2) := by decide +kernel
theorem zd_XReader_readMaterial_28 : decode zb_XReader_readMaterial 28 = .ok (.invokevirtual 45, 3) := by decide +kernel
theorem zd_XReader_readMaterial_31 : decode zb_XReader_readMaterial 31 = .ok (.aload_n 1, 1) := by decide +kernel
theorem zd_XReader_readMaterial_32 : decode zb_XReader_readMaterial 32 = .ok (.iconst 4, 1) := by decide +kernel
theorem zd_XReader_readMaterial_33 : decode zb_XReader_readMaterial 33 = .ok (.aload_n 0, 1) := by decide +kernel
theorem zd_XReader_readMaterial_34 : decode zb_XReader_readMaterial 34 = .ok (.ldc 175, 2) := by decide +kernel
theorem zd_XReader_readMaterial_36 : decode zb_XReader_readMaterial 36 = .ok (.iconst (-1), 1) := by decide +kernel
theorem zd_XReader_readMaterial_37 : decode zb_XReader_readMaterial 37 = .ok (.aload_n 0, 1) := by decide +kernel
theorem zd_XReader_readMaterial_38 : decode zb_XReader_readMaterial 38 = .ok (.getfield 23, 3) := by decide +kernel
theorem zd_XReader_readMaterial_41 : decode zb_XReader_readMaterial 41 = .ok (.getfield 133, 3) := by decide +kernel
theorem zd_XReader_readMaterial_44 : decode zb_XReader_readMaterial 44 = .ok (.iconst 0, 1) := by decide +kernel
theorem zd_XReader_readMaterial_45 : decode zb_XReader_readMaterial 45 = .ok (.iaload, 1) := by decide +kernel
theorem zd_XReader_readMaterial_46 : decode zb_XReader_readMaterial 46 = .ok (.iconst 1, 1) := by decide +kernel
theorem zd_XReader_readMaterial_47 : decode zb_XReader_readMaterial 47 = .ok (.isub, 1) := by decide +kernel
theorem zd_XReader_readMaterial_48 : decode zb_XReader_readMaterial 48 = .ok (.invokevirtual 138, 3) := by decide +kernel
theorem zd_XReader_readMaterial_51 : decode zb_XReader_readMaterial 51 = .ok (.iastore, 1) := by decide +kernel
theorem zd_XReader_readMaterial_52 : decode zb_XReader_readMaterial 52 = .ok (.aload_n 0, 1) := by decide +kernel
theorem zd_XReader_readMaterial_53 : decode zb_XReader_readMaterial 53 = .ok (.bipush 44, 2) := by decide +kernel
theorem zd_XReader_readMaterial_55 : decode zb_XReader_readMaterial 55 = .ok (.invokevirtual 45, 3) := by decide +kernel
theorem zd_XReader_readMaterial_58 : decode zb_XReader_readMaterial 58 = .ok (.aload_n 1, 1) := by decide +kernel
theorem zd_XReader_readMaterial_59 : decode zb_XReader_readMaterial 59 = .ok (.iconst 5, 1) := by decide +kernel
theorem zd_XReader_readMaterial_60 : decode zb_XReader_readMaterial 60 = .ok (.aload_n 0, 1) := by decide +kernel
theorem zd_XReader_readMaterial_61 : decode zb_XReader_readMaterial 61 = .ok (.ldc 177, 2) := by decide +kernel
theorem zd_XReader_readMaterial_63 : decode zb_XReader_readMaterial 63 = .ok (.iconst 0, 1) := by decide +kernel
theorem zd_XReader_readMaterial_64 : decode zb_XReader_readMaterial 64 = .ok (.iconst 1, 1) := by decide +kernel
theorem zd_XReader_readMaterial_65 : decode zb_XReader_readMaterial 65 = .ok (.invokevirtual 138, 3) := by decide +kernel
theorem zd_XReader_readMaterial_68 : decode zb_XReader_readMaterial 68 = .ok (.iastore, 1) := by decide +kernel
theorem zd_XReader_readMaterial_69 : decode zb_XReader_readMaterial 69 = .ok (.return_, 1) := by decide +kernel
theorem zw_1202 : (Jvm.Cond.methodLink "OrreryBox$Reader" (169 : Nat) ({ cls := "java/lang/System", name := "arraycopy", desc := "(Ljava/lang/Object;ILjava/lang/Object;II)V" } : Jvm.MethodName)) ∈ gw := gw_t 1202 (by decide +kernel) rfl
theorem zw_284 : (Jvm.Cond.fieldLink "OrreryBox$Reader" (133 : Nat) "OrreryBox$Scene" "counts" "[I") ∈ gw := gw_t 284 (by decide +kernel) rfl
def F_XReader_readMaterial (sh : zSh) (mm : zMem) (o : Nat) (x0_ : Nat) : Option zMem := zoS (sh o) 7 (fun le2 => Option.bind (F_XReader_numbers sh mm o 19 4 4 0 255 0) (fun p3 => zoS (sh o) 7 (fun le5 => Option.bind ((p3.2).2.2 o 2) (fun a6 => zoS (sh a6) 100 (fun le7 => zoS (sh x0_) 100 (fun le9 => if ¬ (0 : Int32) < 0 ∧ ¬ (0 : Int32) < 0 ∧ ¬ (4 : Int32) < 0 ∧ (0 : Int32).toNatClampNeg + (4 : Int32).toNatClampNeg ≤ le7 ∧ (0 : Int32).toNatClampNeg + (4 : Int32).toNatClampNeg ≤ le9 then zoL (mC (p3.2) a6 x0_ (0 : Int32).toNatClampNeg (0 : Int32).toNatClampNeg (4 : Int32).toNatClampNeg) (fun mm12 => zoS (sh o) 7 (fun le14 => Option.bind (F_XReader_need sh mm12 o 44) (fun p15 => zoS (sh o) 7 (fun le17 => Option.bind (p15.2.2 o 7) (fun a18 => zoS (sh a18) 8 (fun le20 => Option.bind (p15.2.2 a18 0) (fun a21 => zoS (sh a21) 100 (fun le23 => if (0 : Int32) < 0 ∨ le23 ≤ (0 : Int32).toNatClampNeg then none else zoS (sh o) 7 (fun le26 => zoL ((p15.1 a21 (0 : Int32).toNatClampNeg) - 1) (fun x27 => Option.bind (F_XReader_number sh p15 o 20 (-1) x27) (fun p28 => zoS (sh x0_) 100 (fun le30 => if (4 : Int32) < 0 ∨ le30 ≤ (4 : Int32).toNatClampNeg then none else zoL (mI (p28.2) x0_ (4 : Int32).toNatClampNeg (p28.1)) (fun mm32 => zoS (sh o) 7 (fun le34 => Option.bind (F_XReader_need sh mm32 o 44) (fun p35 => zoS (sh o) 7 (fun le37 => Option.bind (F_XReader_number sh p35 o 21 0 1) (fun p38 => zoS (sh x0_) 100 (fun le40 => if (5 : Int32) < 0 ∨ le40 ≤ (5 : Int32).toNatClampNeg then none else zoL (mI (p38.2) x0_ (5 : Int32).toNatClampNeg (p38.1)) (fun mm42 => some mm42))))))))))))))))))) else none))))))
set_option maxHeartbeats 4000000 in
set_option maxRecDepth 100000 in
theorem k_XReader_readMaterial (l : Launch) (D : va_G) (tA : Nat → ClassId) (b : Nat) (sh : zSh) (n : Nat) {mm : zMem} {o : Nat} {x0_ : Nat} {r : zMem} (h : F_XReader_readMaterial sh mm o x0_ = some r) : zM l D tA b zy_XReader_readMaterial zb_XReader_readMaterial 2 none 7 158 0 0 [.ref (b + o), .ref (b + x0_)] (zW tA b sh mm) n (zE none (zW tA b sh r) n) := by
  unfold F_XReader_readMaterial at h
  refine zM_of (own := "OrreryBox$Reader") (plainFor_of_name (by decide)) rfl (Nat.le_of_ble_eq_true rfl) (fun p e s m below meth c F hr hin hH => ?_)
  refine zr_aload_n F zd_XReader_readMaterial_0 rfl ?_
  refine zr_ldcS F 19 "colour" zd_XReader_readMaterial_1 (by decide +kernel) ?_
  refine zr_iconstv (v := 4) F zd_XReader_readMaterial_3 (by decide) ?_
  refine zr_iconstv (v := 4) F zd_XReader_readMaterial_4 (by decide) ?_
  refine zr_iconstv (v := 0) F zd_XReader_readMaterial_5 (by decide) ?_
  refine zr_sipushv (v := 255) F zd_XReader_readMaterial_6 (by decide) ?_
  refine zr_iconstv (v := 0) F zd_XReader_readMaterial_9 (by decide) ?_
  refine zr_pcn 10 rfl ?_
  obtain ⟨le2, hs1, h⟩ := zoS_s h
  obtain ⟨p3, ep3, h⟩ := zoB_s h
  refine zr_callV1 F (k_XReader_numbers l D tA b sh _ ep3) zd_XReader_readMaterial_10 (zW_o hs1 (by decide)) rfl zs_XReader_160 rfl zq_XReader_numbers rfl rfl ⟨(Nat.le_of_ble_eq_true rfl), (Nat.le_of_ble_eq_true rfl)⟩ (Nat.le_of_ble_eq_true rfl) ⟨(Nat.le_of_ble_eq_true rfl), (Nat.le_of_ble_eq_true rfl)⟩ ?_
  refine zr_pop F zd_XReader_readMaterial_13 rfl ?_
  refine zr_aload_n F zd_XReader_readMaterial_14 rfl ?_
  obtain ⟨le5, hs4, h⟩ := zoS_s h
  obtain ⟨a6, ea6, h⟩ := zoB_s h
  refine zr_get F 7 2 zd_XReader_readMaterial_15 (zW_o hs4 (by decide)) rfl (by decide) zw_50 rfl (by rfl) ?_
  refine zr_tor ea6 ?_
  refine zr_iconstv (v := 0) F zd_XReader_readMaterial_18 (by decide) ?_
  refine zr_aload_n F zd_XReader_readMaterial_19 rfl ?_
  refine zr_iconstv (v := 0) F zd_XReader_readMaterial_20 (by decide) ?_
  refine zr_iconstv (v := 4) F zd_XReader_readMaterial_21 (by decide) ?_
  refine zr_pcn 22 rfl ?_
  obtain ⟨le7, hs8, h⟩ := zoS_s h
  obtain ⟨le9, hs10, h⟩ := zoS_s h
  obtain ⟨hc11, h⟩ := zoT_s h
  obtain ⟨mm12, emm12, h⟩ := zoL_s h
  refine zr_copy F zd_XReader_readMaterial_22 zw_1202 zw_724 zw_723 zw_26 (zW_a0 hs8) (zW_a0 hs10) hc11.1 hc11.2.1 hc11.2.2.1 hc11.2.2.2.1 hc11.2.2.2.2 (Nat.le_of_ble_eq_true rfl) (Nat.le_of_ble_eq_true rfl) ?_
  refine zr_norm (zW tA b sh mm12) _ (by rw [emm12]; exact zW_c hs10) rfl ?_
  refine zr_aload_n F zd_XReader_readMaterial_25 rfl ?_
  refine zr_bipushv (v := 44) F zd_XReader_readMaterial_26 (by decide) ?_
  obtain ⟨le14, hs13, h⟩ := zoS_s h
  obtain ⟨p15, ep15, h⟩ := zoB_s h
  refine zr_callV0 F (k_XReader_need l D tA b sh _ ep15) zd_XReader_readMaterial_28 (zW_o hs13 (by decide)) rfl zs_XReader_45 rfl zq_XReader_need rfl rfl ⟨(Nat.le_of_ble_eq_true rfl), (Nat.le_of_ble_eq_true rfl)⟩ (Nat.le_of_ble_eq_true rfl) ⟨(Nat.le_of_ble_eq_true rfl), (Nat.le_of_ble_eq_true rfl)⟩ ?_
  refine zr_aload_n F zd_XReader_readMaterial_31 rfl ?_
  refine zr_iconstv (v := 4) F zd_XReader_readMaterial_32 (by decide) ?_
  refine zr_aload_n F zd_XReader_readMaterial_33 rfl ?_
  refine zr_ldcS F 20 "texture" zd_XReader_readMaterial_34 (by decide +kernel) ?_
  refine zr_pcn 36 rfl ?_
  refine zr_iconstv (v := (-1)) F zd_XReader_readMaterial_36 (by decide) ?_
  refine zr_aload_n F zd_XReader_readMaterial_37 rfl ?_
  obtain ⟨le17, hs16, h⟩ := zoS_s h
  obtain ⟨a18, ea18, h⟩ := zoB_s h
  refine zr_get F 7 7 zd_XReader_readMaterial_38 (zW_o hs16 (by decide)) rfl (by decide) zw_55 rfl (by rfl) ?_
  refine zr_tor ea18 ?_
  obtain ⟨le20, hs19, h⟩ := zoS_s h
  obtain ⟨a21, ea21, h⟩ := zoB_s h
  refine zr_get F 8 0 zd_XReader_readMaterial_41 (zW_o hs19 (by decide)) rfl (by decide) zw_284 rfl (by rfl) ?_
  refine zr_tor ea21 ?_
  refine zr_iconstv (v := 0) F zd_XReader_readMaterial_44 (by decide) ?_
  obtain ⟨le23, hs22, h⟩ := zoS_s h
  obtain ⟨hi24, h⟩ := zoI_s h
  refine zr_iald F zd_XReader_readMaterial_45 (zW_a0 hs22) hi24 ?_
  refine zr_iconstv (v := 1) F zd_XReader_readMaterial_46 (by decide) ?_
  refine zr_isub F zd_XReader_readMaterial_47 ?_
  refine zr_pcn 48 rfl ?_
  obtain ⟨le26, hs25, h⟩ := zoS_s h
  obtain ⟨x27, ex27, h⟩ := zoL_s h
  rw [← ex27]
  obtain ⟨p28, ep28, h⟩ := zoB_s h
  refine zr_callV1 F (k_XReader_number l D tA b sh _ ep28) zd_XReader_readMaterial_48 (zW_o hs25 (by decide)) rfl zs_XReader_138 rfl zq_XReader_number rfl rfl ⟨(Nat.le_of_ble_eq_true rfl), (Nat.le_of_ble_eq_true rfl)⟩ (Nat.le_of_ble_eq_true rfl) ⟨(Nat.le_of_ble_eq_true rfl), (Nat.le_of_ble_eq_true rfl)⟩ ?_
  obtain ⟨le30, hs29, h⟩ := zoS_s h
  obtain ⟨hi31, h⟩ := zoI_s h
  refine zr_iast F zd_XReader_readMaterial_51 (zW_a0 hs29) hi31 ?_
  obtain ⟨mm32, emm32, h⟩ := zoL_s h
  refine zr_norm (zW tA b sh mm32) _ (by rw [emm32]; exact zW_s0 hs29) rfl ?_
  refine zr_aload_n F zd_XReader_readMaterial_52 rfl ?_
  refine zr_bipushv (v := 44) F zd_XReader_readMaterial_53 (by decide) ?_
  obtain ⟨le34, hs33, h⟩ := zoS_s h
  obtain ⟨p35, ep35, h⟩ := zoB_s h
  refine zr_callV0 F (k_XReader_need l D tA b sh _ ep35) zd_XReader_readMaterial_55 (zW_o hs33 (by decide)) rfl zs_XReader_45 rfl zq_XReader_need rfl rfl ⟨(Nat.le_of_ble_eq_true rfl), (Nat.le_of_ble_eq_true rfl)⟩ (Nat.le_of_ble_eq_true rfl) ⟨(Nat.le_of_ble_eq_true rfl), (Nat.le_of_ble_eq_true rfl)⟩ ?_
  refine zr_aload_n F zd_XReader_readMaterial_58 rfl ?_
  refine zr_iconstv (v := 5) F zd_XReader_readMaterial_59 (by decide) ?_
  refine zr_aload_n F zd_XReader_readMaterial_60 rfl ?_
  refine zr_pcn 61 rfl ?_
  refine zr_ldcS F 21 "both" zd_XReader_readMaterial_61 (by decide +kernel) ?_
  refine zr_iconstv (v := 0) F zd_XReader_readMaterial_63 (by decide) ?_
  refine zr_iconstv (v := 1) F zd_XReader_readMaterial_64 (by decide) ?_
  obtain ⟨le37, hs36, h⟩ := zoS_s h
  obtain ⟨p38, ep38, h⟩ := zoB_s h
  refine zr_callV1 F (k_XReader_number l D tA b sh _ ep38) zd_XReader_readMaterial_65 (zW_o hs36 (by decide)) rfl zs_XReader_138 rfl zq_XReader_number rfl rfl ⟨(Nat.le_of_ble_eq_true rfl), (Nat.le_of_ble_eq_true rfl)⟩ (Nat.le_of_ble_eq_true rfl) ⟨(Nat.le_of_ble_eq_true rfl), (Nat.le_of_ble_eq_true rfl)⟩ ?_
  obtain ⟨le40, hs39, h⟩ := zoS_s h
  obtain ⟨hi41, h⟩ := zoI_s h
  refine zr_iast F zd_XReader_readMaterial_68 (zW_a0 hs39) hi41 ?_
  obtain ⟨mm42, emm42, h⟩ := zoL_s h
  refine zr_norm (zW tA b sh mm42) _ (by rw [emm42]; exact zW_s0 hs39) rfl ?_
  obtain rfl := Option.some.inj h
  exact zr_vret F hr zd_XReader_readMaterial_69 (Nat.le_of_ble_eq_true rfl) (Nat.le_of_ble_eq_true rfl) ⟨rfl, rfl, rfl⟩
def T_XReader_readMaterial (sh : zSh) (mm : zMem) (o : Nat) (x0_ : Nat) : Option zMem := zoS (sh o) 7 (fun le2 => zoX (F_XReader_numbers sh mm o 19 4 4 0 255 0) (T_XReader_numbers sh mm o 19 4 4 0 255 0) (fun p3 => zoS (sh o) 7 (fun le5 => Option.bind ((p3.2).2.2 o 2) (fun a6 => zoS (sh a6) 100 (fun le7 => zoS (sh x0_) 100 (fun le9 => if ¬ (0 : Int32) < 0 ∧ ¬ (0 : Int32) < 0 ∧ ¬ (4 : Int32) < 0 ∧ (0 : Int32).toNatClampNeg + (4 : Int32).toNatClampNeg ≤ le7 ∧ (0 : Int32).toNatClampNeg + (4 : Int32).toNatClampNeg ≤ le9 then zoL (mC (p3.2) a6 x0_ (0 : Int32).toNatClampNeg (0 : Int32).toNatClampNeg (4 : Int32).toNatClampNeg) (fun mm12 => zoS (sh o) 7 (fun le14 => zoX (F_XReader_need sh mm12 o 44) (T_XReader_need sh mm12 o 44) (fun p15 => zoS (sh o) 7 (fun le17 => Option.bind (p15.2.2 o 7) (fun a18 => zoS (sh a18) 8 (fun le20 => Option.bind (p15.2.2 a18 0) (fun a21 => zoS (sh a21) 100 (fun le23 => if (0 : Int32) < 0 ∨ le23 ≤ (0 : Int32).toNatClampNeg then none else zoS (sh o) 7 (fun le26 => zoL ((p15.1 a21 (0 : Int32).toNatClampNeg) - 1) (fun x27 => zoX (F_XReader_number sh p15 o 20 (-1) x27) (T_XReader_number sh p15 o 20 (-1) x27) (fun p28 => zoS (sh x0_) 100 (fun le30 => if (4 : Int32) < 0 ∨ le30 ≤ (4 : Int32).toNatClampNeg then none else zoL (mI (p28.2) x0_ (4 : Int32).toNatClampNeg (p28.1)) (fun mm32 => zoS (sh o) 7 (fun le34 => zoX (F_XReader_need sh mm32 o 44) (T_XReader_need sh mm32 o 44) (fun p35 => zoS (sh o) 7 (fun le37 => zoX (F_XReader_number sh p35 o 21 0 1) (T_XReader_number sh p35 o 21 0 1) (fun p38 => zoS (sh x0_) 100 (fun le40 => if (5 : Int32) < 0 ∨ le40 ≤ (5 : Int32).toNatClampNeg then none else zoL (mI (p38.2) x0_ (5 : Int32).toNatClampNeg (p38.1)) (fun mm42 => none))))))))))))))))))) else none))))))
set_option maxHeartbeats 4000000 in
set_option maxRecDepth 100000 in
theorem kT_XReader_readMaterial (l : Launch) (D : va_G) (tA : Nat → ClassId) (b : Nat) (sh : zSh) (n : Nat) (hl : l.stackTraces = false) {mm : zMem} {o : Nat} {x0_ : Nat} {r : zMem} (h : T_XReader_readMaterial sh mm o x0_ = some r) : zMT l D tA b zy_XReader_readMaterial zb_XReader_readMaterial 2 none 9 166 1 6 [.ref (b + o), .ref (b + x0_)] (zW tA b sh mm) n "java/lang/IllegalArgumentException" (zW tA b sh r) (n + 1) := by
  unfold T_XReader_readMaterial at h
  refine zMT_of (own := "OrreryBox$Reader") (plainFor_of_name (by decide)) rfl (Nat.le_of_ble_eq_true rfl) (fun p e s m below meth c F hno hH => ?_)
  refine zr_aload_n F zd_XReader_readMaterial_0 rfl ?_
  refine zr_ldcS F 19 "colour" zd_XReader_readMaterial_1 (by decide +kernel) ?_
  refine zr_iconstv (v := 4) F zd_XReader_readMaterial_3 (by decide) ?_
  refine zr_iconstv (v := 4) F zd_XReader_readMaterial_4 (by decide) ?_
  refine zr_iconstv (v := 0) F zd_XReader_readMaterial_5 (by decide) ?_
  refine zr_sipushv (v := 255) F zd_XReader_readMaterial_6 (by decide) ?_
  refine zr_iconstv (v := 0) F zd_XReader_readMaterial_9 (by decide) ?_
  refine zr_pcn 10 rfl ?_
  obtain ⟨le2, hs1, h⟩ := zoS_s h
  cases ep3 : F_XReader_numbers sh mm o 19 4 4 0 255 0 with
  | none =>
    rw [ep3] at h
    dsimp only [zoX] at h
    exact zr_thrV F hno (kT_XReader_numbers l D tA b sh _ hl h) zd_XReader_readMaterial_10 (zW_o hs1 (by decide)) rfl zs_XReader_160 rfl zq_XReader_numbers rfl rfl ⟨(Nat.le_of_ble_eq_true rfl), (Nat.le_of_ble_eq_true rfl)⟩ (Nat.le_of_ble_eq_true rfl) ⟨(Nat.le_of_ble_eq_true rfl), (Nat.le_of_ble_eq_true rfl)⟩ ⟨(Nat.le_of_ble_eq_true rfl), (Nat.le_of_ble_eq_true rfl)⟩
  | some p3 =>
    rw [ep3] at h
    dsimp only [zoX] at h
    refine zr_callV1 F (k_XReader_numbers l D tA b sh _ ep3) zd_XReader_readMaterial_10 (zW_o hs1 (by decide)) rfl zs_XReader_160 rfl zq_XReader_numbers rfl rfl ⟨(Nat.le_of_ble_eq_true rfl), (Nat.le_of_ble_eq_true rfl)⟩ (Nat.le_of_ble_eq_true rfl) ⟨(Nat.le_of_ble_eq_true rfl), (Nat.le_of_ble_eq_true rfl)⟩ ?_
    refine zr_pop F zd_XReader_readMaterial_13 rfl ?_
    refine zr_aload_n F zd_XReader_readMaterial_14 rfl ?_
    obtain ⟨le5, hs4, h⟩ := zoS_s h
    obtain ⟨a6, ea6, h⟩ := zoB_s h
    refine zr_get F 7 2 zd_XReader_readMaterial_15 (zW_o hs4 (by decide)) rfl (by decide) zw_50 rfl (by rfl) ?_
    refine zr_tor ea6 ?_
    refine zr_iconstv (v := 0) F zd_XReader_readMaterial_18 (by decide) ?_
    refine zr_aload_n F zd_XReader_readMaterial_19 rfl ?_
    refine zr_iconstv (v := 0) F zd_XReader_readMaterial_20 (by decide) ?_
    refine zr_iconstv (v := 4) F zd_XReader_readMaterial_21 (by decide) ?_
    refine zr_pcn 22 rfl ?_
    obtain ⟨le7, hs8, h⟩ := zoS_s h
    obtain ⟨le9, hs10, h⟩ := zoS_s h
    obtain ⟨hc11, h⟩ := zoT_s h
    obtain ⟨mm12, emm12, h⟩ := zoL_s h
    refine zr_copy F zd_XReader_readMaterial_22 zw_1202 zw_724 zw_723 zw_26 (zW_a0 hs8) (zW_a0 hs10) hc11.1 hc11.2.1 hc11.2.2.1 hc11.2.2.2.1 hc11.2.2.2.2 (Nat.le_of_ble_eq_true rfl) (Nat.le_of_ble_eq_true rfl) ?_
    refine zr_norm (zW tA b sh mm12) _ (by rw [emm12]; exact zW_c hs10) rfl ?_
    refine zr_aload_n F zd_XReader_readMaterial_25 rfl ?_
    refine zr_bipushv (v := 44) F zd_XReader_readMaterial_26 (by decide) ?_
    obtain ⟨le14, hs13, h⟩ := zoS_s h
    cases ep15 : F_XReader_need sh mm12 o 44 with
    | none =>
      rw [ep15] at h
      dsimp only [zoX] at h
      exact zr_thrV F hno (kT_XReader_need l D tA b sh _ hl h) zd_XReader_readMaterial_28 (zW_o hs13 (by decide)) rfl zs_XReader_45 rfl zq_XReader_need rfl rfl ⟨(Nat.le_of_ble_eq_true rfl), (Nat.le_of_ble_eq_true rfl)⟩ (Nat.le_of_ble_eq_true rfl) ⟨(Nat.le_of_ble_eq_true rfl), (Nat.le_of_ble_eq_true rfl)⟩ ⟨(Nat.le_of_ble_eq_true rfl), (Nat.le_of_ble_eq_true rfl)⟩
    | some p15 =>
      rw [ep15] at h
      dsimp only [zoX] at h
      refine zr_callV0 F (k_XReader_need l D tA b sh _ ep15) zd_XReader_readMaterial_28 (zW_o hs13 (by decide)) rfl zs_XReader_45 rfl zq_XReader_need rfl rfl ⟨(Nat.le_of_ble_eq_true rfl), (Nat.le_of_ble_eq_true rfl)⟩ (Nat.le_of_ble_eq_true rfl) ⟨(Nat.le_of_ble_eq_true rfl), (Nat.le_of_ble_eq_true rfl)⟩ ?_
      refine zr_aload_n F zd_XReader_readMaterial_31 rfl ?_
      refine zr_iconstv (v := 4) F zd_XReader_readMaterial_32 (by decide) ?_
      refine zr_aload_n F zd_XReader_readMaterial_33 rfl ?_
      refine zr_ldcS F 20 "texture" zd_XReader_readMaterial_34 (by decide +kernel) ?_
      refine zr_pcn 36 rfl ?_
      refine zr_iconstv (v := (-1)) F zd_XReader_readMaterial_36 (by decide) ?_
      refine zr_aload_n F zd_XReader_readMaterial_37 rfl ?_
      obtain ⟨le17, hs16, h⟩ := zoS_s h
      obtain ⟨a18, ea18, h⟩ := zoB_s h
      refine zr_get F 7 7 zd_XReader_readMaterial_38 (zW_o hs16 (by decide)) rfl (by decide) zw_55 rfl (by rfl) ?_
      refine zr_tor ea18 ?_
      obtain ⟨le20, hs19, h⟩ := zoS_s h
      obtain ⟨a21, ea21, h⟩ := zoB_s h
      refine zr_get F 8 0 zd_XReader_readMaterial_41 (zW_o hs19 (by decide)) rfl (by decide) zw_284 rfl (by rfl) ?_
      refine zr_tor ea21 ?_
      refine zr_iconstv (v := 0) F zd_XReader_readMaterial_44 (by decide) ?_
      obtain ⟨le23, hs22, h⟩ := zoS_s h
      obtain ⟨hi24, h⟩ := zoI_s h
      refine zr_iald F zd_XReader_readMaterial_45 (zW_a0 hs22) hi24 ?_
      refine zr_iconstv (v := 1) F zd_XReader_readMaterial_46 (by decide) ?_
      refine zr_isub F zd_XReader_readMaterial_47 ?_
      refine zr_pcn 48 rfl ?_
      obtain ⟨le26, hs25, h⟩ := zoS_s h
      obtain ⟨x27, ex27, h⟩ := zoL_s h
      rw [← ex27]
      cases ep28 : F_XReader_number sh p15 o 20 (-1) x27 with
      | none =>
        rw [ep28] at h
        dsimp only [zoX] at h
        exact zr_thrV F hno (kT_XReader_number l D tA b sh _ hl h) zd_XReader_readMaterial_48 (zW_o hs25 (by decide)) rfl zs_XReader_138 rfl zq_XReader_number rfl rfl ⟨(Nat.le_of_ble_eq_true rfl), (Nat.le_of_ble_eq_true rfl)⟩ (Nat.le_of_ble_eq_true rfl) ⟨(Nat.le_of_ble_eq_true rfl), (Nat.le_of_ble_eq_true rfl)⟩ ⟨(Nat.le_of_ble_eq_true rfl), (Nat.le_of_ble_eq_true rfl)⟩
      | some p28 =>
        rw [ep28] at h
        dsimp only [zoX] at h
        refine zr_callV1 F (k_XReader_number l D tA b sh _ ep28) zd_XReader_readMaterial_48 (zW_o hs25 (by decide)) rfl zs_XReader_138 rfl zq_XReader_number rfl rfl ⟨(Nat.le_of_ble_eq_true rfl), (Nat.le_of_ble_eq_true rfl)⟩ (Nat.le_of_ble_eq_true rfl) ⟨(Nat.le_of_ble_eq_true rfl), (Nat.le_of_ble_eq_true rfl)⟩ ?_
        obtain ⟨le30, hs29, h⟩ := zoS_s h
        obtain ⟨hi31, h⟩ := zoI_s h
        refine zr_iast F zd_XReader_readMaterial_51 (zW_a0 hs29) hi31 ?_
        obtain ⟨mm32, emm32, h⟩ := zoL_s h
        refine zr_norm (zW tA b sh mm32) _ (by rw [emm32]; exact zW_s0 hs29) rfl ?_
        refine zr_aload_n F zd_XReader_readMaterial_52 rfl ?_
        refine zr_bipushv (v := 44) F zd_XReader_readMaterial_53 (by decide) ?_
        obtain ⟨le34, hs33, h⟩ := zoS_s h
        cases ep35 : F_XReader_need sh mm32 o 44 with
        | none =>
          rw [ep35] at h
          dsimp only [zoX] at h
          exact zr_thrV F hno (kT_XReader_need l D tA b sh _ hl h) zd_XReader_readMaterial_55 (zW_o hs33 (by decide)) rfl zs_XReader_45 rfl zq_XReader_need rfl rfl ⟨(Nat.le_of_ble_eq_true rfl), (Nat.le_of_ble_eq_true rfl)⟩ (Nat.le_of_ble_eq_true rfl) ⟨(Nat.le_of_ble_eq_true rfl), (Nat.le_of_ble_eq_true rfl)⟩ ⟨(Nat.le_of_ble_eq_true rfl), (Nat.le_of_ble_eq_true rfl)⟩
        | some p35 =>
          rw [ep35] at h
          dsimp only [zoX] at h
          refine zr_callV0 F (k_XReader_need l D tA b sh _ ep35) zd_XReader_readMaterial_55 (zW_o hs33 (by decide)) rfl zs_XReader_45 rfl zq_XReader_need rfl rfl ⟨(Nat.le_of_ble_eq_true rfl), (Nat.le_of_ble_eq_true rfl)⟩ (Nat.le_of_ble_eq_true rfl) ⟨(Nat.le_of_ble_eq_true rfl), (Nat.le_of_ble_eq_true rfl)⟩ ?_
          refine zr_aload_n F zd_XReader_readMaterial_58 rfl ?_
          refine zr_iconstv (v := 5) F zd_XReader_readMaterial_59 (by decide) ?_
          refine zr_aload_n F zd_XReader_readMaterial_60 rfl ?_
          refine zr_pcn 61 rfl ?_
          refine zr_ldcS F 21 "both" zd_XReader_readMaterial_61 (by decide +kernel) ?_
          refine zr_iconstv (v := 0) F zd_XReader_readMaterial_63 (by decide) ?_
          refine zr_iconstv (v := 1) F zd_XReader_readMaterial_64 (by decide) ?_
          obtain ⟨le37, hs36, h⟩ := zoS_s h
          cases ep38 : F_XReader_number sh p35 o 21 0 1 with
          | none =>
            rw [ep38] at h
            dsimp only [zoX] at h
            exact zr_thrV F hno (kT_XReader_number l D tA b sh _ hl h) zd_XReader_readMaterial_65 (zW_o hs36 (by decide)) rfl zs_XReader_138 rfl zq_XReader_number rfl rfl ⟨(Nat.le_of_ble_eq_true rfl), (Nat.le_of_ble_eq_true rfl)⟩ (Nat.le_of_ble_eq_true rfl) ⟨(Nat.le_of_ble_eq_true rfl), (Nat.le_of_ble_eq_true rfl)⟩ ⟨(Nat.le_of_ble_eq_true rfl), (Nat.le_of_ble_eq_true rfl)⟩
          | some p38 =>
            rw [ep38] at h
            dsimp only [zoX] at h
            refine zr_callV1 F (k_XReader_number l D tA b sh _ ep38) zd_XReader_readMaterial_65 (zW_o hs36 (by decide)) rfl zs_XReader_138 rfl zq_XReader_number rfl rfl ⟨(Nat.le_of_ble_eq_true rfl), (Nat.le_of_ble_eq_true rfl)⟩ (Nat.le_of_ble_eq_true rfl) ⟨(Nat.le_of_ble_eq_true rfl), (Nat.le_of_ble_eq_true rfl)⟩ ?_
            obtain ⟨le40, hs39, h⟩ := zoS_s h
            obtain ⟨hi41, h⟩ := zoI_s h
            refine zr_iast F zd_XReader_readMaterial_68 (zW_a0 hs39) hi41 ?_
            obtain ⟨mm42, emm42, h⟩ := zoL_s h
            refine zr_norm (zW tA b sh mm42) _ (by rw [emm42]; exact zW_s0 hs39) rfl ?_
            cases h
