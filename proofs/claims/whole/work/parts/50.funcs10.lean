abbrev zb_XReader_readMaterial : ByteArray := prog_8_method_6_code
def zy_XReader_readMaterial : MethodName := ⟨"OrreryBox$Reader", "readMaterial", "([I)V"⟩
theorem zc_XReader_readMaterial : Cond.code zy_XReader_readMaterial zb_XReader_readMaterial 2 none ∈ gw := gw_t 1246 (by decide +kernel) rfl
theorem zq_XReader_readMaterial : zy_XReader_readMaterial.cls ≠ "java/lang/invoke/MethodHandle" ∧ zy_XReader_readMaterial.cls ≠ "java/lang/invoke/VarHandle" ∧ (parseMethodDescriptor zy_XReader_readMaterial.desc).map (fun d => d.parameters.length) = some 1 := by decide +kernel
theorem zd_XReader_readMaterial_0 : decode zb_XReader_readMaterial 0 = .ok (.aload_n 0, 1) := by decide +kernel
theorem zd_XReader_readMaterial_1 : decode zb_XReader_readMaterial 1 = .ok (.ldc 167, 2) := by decide +kernel
theorem zd_XReader_readMaterial_3 : decode zb_XReader_readMaterial 3 = .ok (.iconst 4, 1) := by decide +kernel
theorem zd_XReader_readMaterial_4 : decode zb_XReader_readMaterial 4 = .ok (.iconst 4, 1) := by decide +kernel
theorem zd_XReader_readMaterial_5 : decode zb_XReader_readMaterial 5 = .ok (.iconst 0, 1) := by decide +kernel
theorem zd_XReader_readMaterial_6 : decode zb_XReader_readMaterial 6 = .ok (.sipush 255, 3) := by decide +kernel
theorem zd_XReader_readMaterial_9 : decode zb_XReader_readMaterial 9 = .ok (.iconst 0, 1) := by decide +kernel
theorem zd_XReader_readMaterial_10 : decode zb_XReader_readMaterial 10 = .ok (.invokevirtual 160, 3) := by decide +kernel
theorem zd_XReader_readMaterial_13 : decode zb_XReader_readMaterial 13 = .ok (.pop, 1) := by decide +kernel
theorem zd_XReader_readMaterial_14 : decode zb_XReader_readMaterial 14 = .ok (.aload_n 0, 1) := by decide +kernel
theorem zd_XReader_readMaterial_15 : decode zb_XReader_readMaterial 15 = .ok (.getfield 9, 3) := by decide +kernel
theorem zd_XReader_readMaterial_18 : decode zb_XReader_readMaterial 18 = .ok (.iconst 0, 1) := by decide +kernel
theorem zd_XReader_readMaterial_19 : decode zb_XReader_readMaterial 19 = .ok (.aload_n 1, 1) := by decide +kernel
theorem zd_XReader_readMaterial_20 : decode zb_XReader_readMaterial 20 = .ok (.iconst 0, 1) := by decide +kernel
theorem zd_XReader_readMaterial_21 : decode zb_XReader_readMaterial 21 = .ok (.iconst 4, 1) := by decide +kernel
theorem zd_XReader_readMaterial_22 : decode zb_XReader_readMaterial 22 = .ok (.invokestatic 169, 3) := by decide +kernel
theorem zd_XReader_readMaterial_25 : decode zb_XReader_readMaterial 25 = .ok (.aload_n 0, 1) := by decide +kernel
theorem zd_XReader_readMaterial_26 : decode zb_XReader_readMaterial 26 = .ok (.bipush 44, 2) := by decide +kernel
theorem zd_XReader_readMaterial_28 : decode zb_XReader_readMaterial 28 = .ok (.invokevirtual 45, 3) := by decide +kernel
theorem zd_XReader_readMaterial_31 : decode zb_XReader_readMaterial 31 = .ok (.aload_n 1, 1) := by decide +kernel
theorem zd_XReader_readMaterial_32 : decode zb_XReader_readMaterial 32 = .ok (.iconst 4, 1) := by decide +kernel
theorem zd_XReader_readMaterial_33 : decode zb_XReader_readMaterial 33 = .ok (.aload_n 0, 1) := by decide +kernel
theorem zd_XReader_readMaterial_34 : decode zb_XReader_readMaterial 34 = .ok (.ldc 175, 2) := by decide +kernel
theorem zd_XReader_readMaterial_36 : decode zb_XReader_readMaterial 36 = .ok (.iconst (-1), 1) := by decide +kernel
theorem zd_XReader_readMaterial_37 : decode zb_XReader_readMaterial 37 = .ok (.aload_n 0, 1) := by decide +kernel
theorem zd_XReader_readMaterial_38 : decode zb_XReader_readMaterial 38 = .ok (.getfield 23, 3) := by decide +kernel
theorem zd_XReader_readMaterial_41 : decode zb_XReader_readMaterial 41 = .ok (.getfield 133, 3) := by decide +kernel
theorem zd_XReader_readMaterial_44 : decode zb_XReader_readMaterial 44 = .ok (.iconst 0, 1) := by decide +kernel
theorem zd_XReader_readMaterial_45 : decode zb_XReader_readMaterial 45 = .ok (.iaload, 1) := by decide +kernel
theorem zd_XReader_readMaterial_46 : decode zb_XReader_readMaterial 46 = .ok (.iconst 1, 1) := by decide +kernel
theorem zd_XReader_readMaterial_47 : decode zb_XReader_readMaterial 47 = .ok (.isub, 1) := by decide +kernel
theorem zd_XReader_readMaterial_48 : decode zb_XReader_readMaterial 48 = .ok (.invokevirtual 138, 3) := by decide +kernel
theorem zd_XReader_readMaterial_51 : decode zb_XReader_readMaterial 51 = .ok (.iastore, 1) := by decide +kernel
theorem zd_XReader_readMaterial_52 : decode zb_XReader_readMaterial 52 = .ok (.aload_n 0, 1) := by decide +kernel
theorem zd_XReader_readMaterial_53 : decode zb_XReader_readMaterial 53 = .ok (.bipush 44, 2) := by decide +kernel
theorem zd_XReader_readMaterial_55 : decode zb_XReader_readMaterial 55 = .ok (.invokevirtual 45, 3) := by decide +kernel
theorem zd_XReader_readMaterial_58 : decode zb_XReader_readMaterial 58 = .ok (.aload_n 1, 1) := by decide +kernel
theorem zd_XReader_readMaterial_59 : decode zb_XReader_readMaterial 59 = .ok (.iconst 5, 1) := by decide +kernel
theorem zd_XReader_readMaterial_60 : decode zb_XReader_readMaterial 60 = .ok (.aload_n 0, 1) := by decide +kernel
theorem zd_XReader_readMaterial_61 : decode zb_XReader_readMaterial 61 = .ok (.ldc 177, 2) := by decide +kernel
theorem zd_XReader_readMaterial_63 : decode zb_XReader_readMaterial 63 = .ok (.iconst 0, 1) := by decide +kernel
theorem zd_XReader_readMaterial_64 : decode zb_XReader_readMaterial 64 = .ok (.iconst 1, 1) := by decide +kernel
theorem zd_XReader_readMaterial_65 : decode zb_XReader_readMaterial 65 = .ok (.invokevirtual 138, 3) := by decide +kernel
theorem zd_XReader_readMaterial_68 : decode zb_XReader_readMaterial 68 = .ok (.iastore, 1) := by decide +kernel
theorem zd_XReader_readMaterial_69 : decode zb_XReader_readMaterial 69 = .ok (.return_, 1) := by decide +kernel
theorem zw_1202 : (Jvm.Cond.methodLink "OrreryBox$Reader" (169 : Nat) ({ cls := "java/lang/System", name := "arraycopy", desc := "(Ljava/lang/Object;ILjava/lang/Object;II)V" } : Jvm.MethodName)) ∈ gw := gw_t 1202 (by decide +kernel) rfl
theorem zw_284 : (Jvm.Cond.fieldLink "OrreryBox$Reader" (133 : Nat) "OrreryBox$Scene" "counts" "[I") ∈ gw := gw_t 284 (by decide +kernel) rfl
def F_XReader_readMaterial (sh : zSh) (mm : zMem) (o : Nat) (x0_ : Nat) : Option zMem := zoS (sh o) 7 (fun le2 => Option.bind (F_XReader_numbers sh mm o 19 4 4 0 255 0) (fun p3 => zoS (sh o) 7 (fun le5 => Option.bind ((p3.2).2.2 o 2) (fun a6 => zoS (sh a6) 100 (fun le7 => zoS (sh x0_) 100 (fun le9 => if ¬ (0 : Int32) < 0 ∧ ¬ (0 : Int32) < 0 ∧ ¬ (4 : Int32) < 0 ∧ (0 : Int32).toNatClampNeg + (4 : Int32).toNatClampNeg ≤ le7 ∧ (0 : Int32).toNatClampNeg + (4 : Int32).toNatClampNeg ≤ le9 then zoL (mC (p3.2) a6 x0_ (0 : Int32).toNatClampNeg (0 : Int32).toNatClampNeg (4 : Int32).toNatClampNeg) (fun mm12 => zoS (sh o) 7 (fun le14 => Option.bind (F_XReader_need sh mm12 o 44) (fun p15 => zoS (sh o) 7 (fun le17 => Option.bind (p15.2.2 o 7) (fun a18 => zoS (sh a18) 8 (fun le20 => Option.bind (p15.2.2 a18 0) (fun a21 => zoS (sh a21) 100 (fun le23 => if (0 : Int32) < 0 ∨ le23 ≤ (0 : Int32).toNatClampNeg then none else zoS (sh o) 7 (fun le26 => zoL ((p15.1 a21 (0 : Int32).toNatClampNeg) - 1) (fun x27 => Option.bind (F_XReader_number sh p15 o 20 (-1) x27) (fun p28 => zoS (sh x0_) 100 (fun le30 => if (4 : Int32) < 0 ∨ le30 ≤ (4 : Int32).toNatClampNeg then none else zoL (mI (p28.2) x0_ (4 : Int32).toNatClampNeg (p28.1)) (fun mm32 => zoS (sh o) 7 (fun le34 => Option.bind (F_XReader_need sh mm32 o 44) (fun p35 => zoS (sh o) 7 (fun le37 => Option.bind (F_XReader_number sh p35 o 21 0 1) (fun p38 => zoS (sh x0_) 100 (fun le40 => if (5 : Int32) < 0 ∨ le40 ≤ (5 : Int32).toNatClampNeg then none else zoL (mI (p38.2) x0_ (5 : Int32).toNatClampNeg (p38.1)) (fun mm42 => some mm42))))))))))))))))))) else none))))))
set_option maxHeartbeats 4000000 in
set_option maxRecDepth 100000 in
theorem k_XReader_readMaterial (l : Launch) (D : va_G) (tA : Nat → ClassId) (b : Nat) (sh : zSh) (n : Nat) {mm : zMem} {o : Nat} {x0_ : Nat} {r : zMem} (h : F_XReader_readMaterial sh mm o x0_ = some r) : zM l D tA b zy_XReader_readMaterial zb_XReader_readMaterial 2 none 7 158 0 0 [.ref (b + o), .ref (b + x0_)] (zW tA b sh mm) n (zE none (zW tA b sh r) n) := by
  unfold F_XReader_readMaterial at h
  refine zM_of (own := "OrreryBox$Reader") (plainFor_of_name (by decide)) rfl (Nat.le_of_ble_eq_true rfl) (fun p e s m below meth c F hr hin hH => ?_)
  refine zr_aload_n F zd_XReader_readMaterial_0 rfl ?_
  refine zr_ldcS F 19 "colour" zd_XReader_readMaterial_1 (by decide +kernel) ?_
  refine zr_iconstv (v := 4) F zd_XReader_readMaterial_3 (by decide) ?_
  refine zr_iconstv (v := 4) F zd_XReader_readMaterial_4 (by decide) ?_
  refine zr_iconstv (v := 0) F zd_XReader_readMaterial_5 (by decide) ?_
  refine zr_sipushv (v := 255) F zd_XReader_readMaterial_6 (by decide) ?_
  refine zr_iconstv (v := 0) F zd_XReader_readMaterial_9 (by decide) ?_
  refine zr_pcn 10 rfl ?_
  obtain ⟨le2, hs1, h⟩ := zoS_s h
  obtain ⟨p3, ep3, h⟩ := zoB_s h
  refine zr_callV1 F (k_XReader_numbers l D tA b sh _ ep3) zd_XReader_readMaterial_10 (zW_o hs1 (by decide)) rfl zs_XReader_160 rfl zq_XReader_numbers rfl rfl ⟨(Nat.le_of_ble_eq_true rfl), (Nat.le_of_ble_eq_true rfl)⟩ (Nat.le_of_ble_eq_true rfl) ⟨(Nat.le_of_ble_eq_true rfl), (Nat.le_of_ble_eq_true rfl)⟩ ?_
  refine zr_pop F zd_XReader_readMaterial_13 rfl ?_
  refine zr_aload_n F zd_XReader_readMaterial_14 rfl ?_
  obtain ⟨le5, hs4, h⟩ := zoS_s h
  obtain ⟨a6, ea6, h⟩ := zoB_s h
  refine zr_get F 7 2 zd_XReader_readMaterial_15 (zW_o hs4 (by decide)) rfl (by decide) zw_50 rfl (by rfl) ?_
  refine zr_tor ea6 ?_
  refine zr_iconstv (v := 0) F zd_XReader_readMaterial_18 (by decide) ?_
  refine zr_aload_n F zd_XReader_readMaterial_19 rfl ?_
  refine zr_iconstv (v := 0) F zd_XReader_readMaterial_20 (by decide) ?_
  refine zr_iconstv (v := 4) F zd_XReader_readMaterial_21 (by decide) ?_
  refine zr_pcn 22 rfl ?_
  obtain ⟨le7, hs8, h⟩ := zoS_s h
  obtain ⟨le9, hs10, h⟩ := zoS_s h
  obtain ⟨hc11, h⟩ := zoT_s h
  obtain ⟨mm12, emm12, h⟩ := zoL_s h
  refine zr_copy F zd_XReader_readMaterial_22 zw_1202 zw_724 zw_723 zw_26 (zW_a0 hs8) (zW_a0 hs10) hc11.1 hc11.2.1 hc11.2.2.1 hc11.2.2.2.1 hc11.2.2.2.2 (Nat.le_of_ble_eq_true rfl) (Nat.le_of_ble_eq_true rfl) ?_
  refine zr_norm (zW tA b sh mm12) _ (by rw [emm12]; exact zW_c hs10) rfl ?_
  refine zr_aload_n F zd_XReader_readMaterial_25 rfl ?_
  refine zr_bipushv (v := 44) F zd_XReader_readMaterial_26 (by decide) ?_
  obtain ⟨le14, hs13, h⟩ := zoS_s h
  obtain ⟨p15, ep15, h⟩ := zoB_s h
  refine zr_callV0 F (k_XReader_need l D tA b sh _ ep15) zd_XReader_readMaterial_28 (zW_o hs13 (by decide)) rfl zs_XReader_45 rfl zq_XReader_need rfl rfl ⟨(Nat.le_of_ble_eq_true rfl), (Nat.le_of_ble_eq_true rfl)⟩ (Nat.le_of_ble_eq_true rfl) ⟨(Nat.le_of_ble_eq_true rfl), (Nat.le_of_ble_eq_true rfl)⟩ ?_
  refine zr_aload_n F zd_XReader_readMaterial_31 rfl ?_
  refine zr_iconstv (v := 4) F zd_XReader_readMaterial_32 (by decide) ?_
  refine zr_aload_n F zd_XReader_readMaterial_33 rfl ?_
  refine zr_ldcS F 20 "texture" zd_XReader_readMaterial_34 (by decide +kernel) ?_
  refine zr_pcn 36 rfl ?_
  refine zr_iconstv (v := (-1)) F zd_XReader_readMaterial_36 (by decide) ?_
  refine zr_aload_n F zd_XReader_readMaterial_37 rfl ?_
  obtain ⟨le17, hs16, h⟩ := zoS_s h
  obtain ⟨a18, ea18, h⟩ := zoB_s h
  refine zr_get F 7 7 zd_XReader_readMaterial_38 (zW_o hs16 (by decide)) rfl (by decide) zw_55 rfl (by rfl) ?_
  refine zr_tor ea18 ?_
  obtain ⟨le20, hs19, h⟩ := zoS_s h
  obtain ⟨a21, ea21, h⟩ := zoB_s h
  refine zr_get F 8 0 zd_XReader_readMaterial_41 (zW_o hs19 (by decide)) rfl (by decide) zw_284 rfl (by rfl) ?_
  refine zr_tor ea21 ?_
  refine zr_iconstv (v := 0) F zd_XReader_readMaterial_44 (by decide) ?_
  obtain ⟨le23, hs22, h⟩ := zoS_s h
  obtain ⟨hi24, h⟩ := zoI_s h
  refine zr_iald F zd_XReader_readMaterial_45 (zW_a0 hs22) hi24 ?_
  refine zr_iconstv (v := 1) F zd_XReader_readMaterial_46 (by decide) ?_
  refine zr_isub F zd_XReader_readMaterial_47 ?_
  refine zr_pcn 48 rfl ?_
  obtain ⟨le26, hs25, h⟩ := zoS_s h
  obtain ⟨x27, ex27, h⟩ := zoL_s h
  rw [← ex27]
  obtain ⟨p28, ep28, h⟩ := zoB_s h
  refine zr_callV1 F (k_XReader_number l D tA b sh _ ep28) zd_XReader_readMaterial_48 (zW_o hs25 (by decide)) rfl zs_XReader_138 rfl zq_XReader_number rfl rfl ⟨(Nat.le_of_ble_eq_true rfl), (Nat.le_of_ble_eq_true rfl)⟩ (Nat.le_of_ble_eq_true rfl) ⟨(Nat.le_of_ble_eq_true rfl), (Nat.le_of_ble_eq_true rfl)⟩ ?_
  obtain ⟨le30, hs29, h⟩ := zoS_s h
  obtain ⟨hi31, h⟩ := zoI_s h
  refine zr_iast F zd_XReader_readMaterial_51 (zW_a0 hs29) hi31 ?_
  obtain ⟨mm32, emm32, h⟩ := zoL_s h
  refine zr_norm (zW tA b sh mm32) _ (by rw [emm32]; exact zW_s0 hs29) rfl ?_
  refine zr_aload_n F zd_XReader_readMaterial_52 rfl ?_
  refine zr_bipushv (v := 44) F zd_XReader_readMaterial_53 (by decide) ?_
  obtain ⟨le34, hs33, h⟩ := zoS_s h
  obtain ⟨p35, ep35, h⟩ := zoB_s h
  refine zr_callV0 F (k_XReader_need l D tA b sh _ ep35) zd_XReader_readMaterial_55 (zW_o hs33 (by decide)) rfl zs_XReader_45 rfl zq_XReader_need rfl rfl ⟨(Nat.le_of_ble_eq_true rfl), (Nat.le_of_ble_eq_true rfl)⟩ (Nat.le_of_ble_eq_true rfl) ⟨(Nat.le_of_ble_eq_true rfl), (Nat.le_of_ble_eq_true rfl)⟩ ?_
  refine zr_aload_n F zd_XReader_readMaterial_58 rfl ?_
  refine zr_iconstv (v := 5) F zd_XReader_readMaterial_59 (by decide) ?_
  refine zr_aload_n F zd_XReader_readMaterial_60 rfl ?_
  refine zr_pcn 61 rfl ?_
  refine zr_ldcS F 21 "both" zd_XReader_readMaterial_61 (by decide +kernel) ?_
  refine zr_iconstv (v := 0) F zd_XReader_readMaterial_63 (by decide) ?_
  refine zr_iconstv (v := 1) F zd_XReader_readMaterial_64 (by decide) ?_
  obtain ⟨le37, hs36, h⟩ := zoS_s h
  obtain ⟨p38, ep38, h⟩ := zoB_s h
  refine zr_callV1 F (k_XReader_number l D tA b sh _ ep38) zd_XReader_readMaterial_65 (zW_o hs36 (by decide)) rfl zs_XReader_138 rfl zq_XReader_number rfl rfl ⟨(Nat.le_of_ble_eq_true rfl), (Nat.le_of_ble_eq_true rfl)⟩ (Nat.le_of_ble_eq_true rfl) ⟨(Nat.le_of_ble_eq_true rfl), (Nat.le_of_ble_eq_true rfl)⟩ ?_
  obtain ⟨le40, hs39, h⟩ := zoS_s h
  obtain ⟨hi41, h⟩ := zoI_s h
  refine zr_iast F zd_XReader_readMaterial_68 (zW_a0 hs39) hi41 ?_
  obtain ⟨mm42, emm42, h⟩ := zoL_s h
  refine zr_norm (zW tA b sh mm42) _ (by rw [emm42]; exact zW_s0 hs39) rfl ?_
  obtain rfl := Option.some.inj h
  exact zr_vret F hr zd_XReader_readMaterial_69 (Nat.le_of_ble_eq_true rfl) (Nat.le_of_ble_eq_true rfl) ⟨rfl, rfl, rfl⟩
def T_XReader_readMaterial (sh : zSh) (mm : zMem) (o : Nat) (x0_ : Nat) : Option zMem := zoS (sh o) 7 (fun le2 => zoX (F_XReader_numbers sh mm o 19 4 4 0 255 0) (T_XReader_numbers sh mm o 19 4 4 0 255 0) (fun p3 => zoS (sh o) 7 (fun le5 => Option.bind ((p3.2).2.2 o 2) (fun a6 => zoS (sh a6) 100 (fun le7 => zoS (sh x0_) 100 (fun le9 => if ¬ (0 : Int32) < 0 ∧ ¬ (0 : Int32) < 0 ∧ ¬ (4 : Int32) < 0 ∧ (0 : Int32).toNatClampNeg + (4 : Int32).toNatClampNeg ≤ le7 ∧ (0 : Int32).toNatClampNeg + (4 : Int32).toNatClampNeg ≤ le9 then zoL (mC (p3.2) a6 x0_ (0 : Int32).toNatClampNeg (0 : Int32).toNatClampNeg (4 : Int32).toNatClampNeg) (fun mm12 => zoS (sh o) 7 (fun le14 => zoX (F_XReader_need sh mm12 o 44) (T_XReader_need sh mm12 o 44) (fun p15 => zoS (sh o) 7 (fun le17 => Option.bind (p15.2.2 o 7) (fun a18 => zoS (sh a18) 8 (fun le20 => Option.bind (p15.2.2 a18 0) (fun a21 => zoS (sh a21) 100 (fun le23 => if (0 : Int32) < 0 ∨ le23 ≤ (0 : Int32).toNatClampNeg then none else zoS (sh o) 7 (fun le26 => zoL ((p15.1 a21 (0 : Int32).toNatClampNeg) - 1) (fun x27 => zoX (F_XReader_number sh p15 o 20 (-1) x27) (T_XReader_number sh p15 o 20 (-1) x27) (fun p28 => zoS (sh x0_) 100 (fun le30 => if (4 : Int32) < 0 ∨ le30 ≤ (4 : Int32).toNatClampNeg then none else zoL (mI (p28.2) x0_ (4 : Int32).toNatClampNeg (p28.1)) (fun mm32 => zoS (sh o) 7 (fun le34 => zoX (F_XReader_need sh mm32 o 44) (T_XReader_need sh mm32 o 44) (fun p35 => zoS (sh o) 7 (fun le37 => zoX (F_XReader_number sh p35 o 21 0 1) (T_XReader_number sh p35 o 21 0 1) (fun p38 => zoS (sh x0_) 100 (fun le40 => if (5 : Int32) < 0 ∨ le40 ≤ (5 : Int32).toNatClampNeg then none else zoL (mI (p38.2) x0_ (5 : Int32).toNatClampNeg (p38.1)) (fun mm42 => none))))))))))))))))))) else none))))))
set_option maxHeartbeats 4000000 in
set_option maxRecDepth 100000 in
theorem kT_XReader_readMaterial (l : Launch) (D : va_G) (tA : Nat → ClassId) (b : Nat) (sh : zSh) (n : Nat) (hl : l.stackTraces = false) {mm : zMem} {o : Nat} {x0_ : Nat} {r : zMem} (h : T_XReader_readMaterial sh mm o x0_ = some r) : zMT l D tA b zy_XReader_readMaterial zb_XReader_readMaterial 2 none 9 166 1 6 [.ref (b + o), .ref (b + x0_)] (zW tA b sh mm) n "java/lang/IllegalArgumentException" (zW tA b sh r) (n + 1) := by
  unfold T_XReader_readMaterial at h
  refine zMT_of (own := "OrreryBox$Reader") (plainFor_of_name (by decide)) rfl (Nat.le_of_ble_eq_true rfl) (fun p e s m below meth c F hno hH => ?_)
  refine zr_aload_n F zd_XReader_readMaterial_0 rfl ?_
  refine zr_ldcS F 19 "colour" zd_XReader_readMaterial_1 (by decide +kernel) ?_
  refine zr_iconstv (v := 4) F zd_XReader_readMaterial_3 (by decide) ?_
  refine zr_iconstv (v := 4) F zd_XReader_readMaterial_4 (by decide) ?_
  refine zr_iconstv (v := 0) F zd_XReader_readMaterial_5 (by decide) ?_
  refine zr_sipushv (v := 255) F zd_XReader_readMaterial_6 (by decide) ?_
  refine zr_iconstv (v := 0) F zd_XReader_readMaterial_9 (by decide) ?_
  refine zr_pcn 10 rfl ?_
  obtain ⟨le2, hs1, h⟩ := zoS_s h
  cases ep3 : F_XReader_numbers sh mm o 19 4 4 0 255 0 with
  | none =>
    rw [ep3] at h
    dsimp only [zoX] at h
    exact zr_thrV F hno (kT_XReader_numbers l D tA b sh _ hl h) zd_XReader_readMaterial_10 (zW_o hs1 (by decide)) rfl zs_XReader_160 rfl zq_XReader_numbers rfl rfl ⟨(Nat.le_of_ble_eq_true rfl), (Nat.le_of_ble_eq_true rfl)⟩ (Nat.le_of_ble_eq_true rfl) ⟨(Nat.le_of_ble_eq_true rfl), (Nat.le_of_ble_eq_true rfl)⟩ ⟨(Nat.le_of_ble_eq_true rfl), (Nat.le_of_ble_eq_true rfl)⟩
  | some p3 =>
    rw [ep3] at h
    dsimp only [zoX] at h
    refine zr_callV1 F (k_XReader_numbers l D tA b sh _ ep3) zd_XReader_readMaterial_10 (zW_o hs1 (by decide)) rfl zs_XReader_160 rfl zq_XReader_numbers rfl rfl ⟨(Nat.le_of_ble_eq_true rfl), (Nat.le_of_ble_eq_true rfl)⟩ (Nat.le_of_ble_eq_true rfl) ⟨(Nat.le_of_ble_eq_true rfl), (Nat.le_of_ble_eq_true rfl)⟩ ?_
    refine zr_pop F zd_XReader_readMaterial_13 rfl ?_
    refine zr_aload_n F zd_XReader_readMaterial_14 rfl ?_
    obtain ⟨le5, hs4, h⟩ := zoS_s h
    obtain ⟨a6, ea6, h⟩ := zoB_s h
    refine zr_get F 7 2 zd_XReader_readMaterial_15 (zW_o hs4 (by decide)) rfl (by decide) zw_50 rfl (by rfl) ?_
    refine zr_tor ea6 ?_
    refine zr_iconstv (v := 0) F zd_XReader_readMaterial_18 (by decide) ?_
    refine zr_aload_n F zd_XReader_readMaterial_19 rfl ?_
    refine zr_iconstv (v := 0) F zd_XReader_readMaterial_20 (by decide) ?_
    refine zr_iconstv (v := 4) F zd_XReader_readMaterial_21 (by decide) ?_
    refine zr_pcn 22 rfl ?_
    obtain ⟨le7, hs8, h⟩ := zoS_s h
    obtain ⟨le9, hs10, h⟩ := zoS_s h
    obtain ⟨hc11, h⟩ := zoT_s h
    obtain ⟨mm12, emm12, h⟩ := zoL_s h
    refine zr_copy F zd_XReader_readMaterial_22 zw_1202 zw_724 zw_723 zw_26 (zW_a0 hs8) (zW_a0 hs10) hc11.1 hc11.2.1 hc11.2.2.1 hc11.2.2.2.1 hc11.2.2.2.2 (Nat.le_of_ble_eq_true rfl) (Nat.le_of_ble_eq_true rfl) ?_
    refine zr_norm (zW tA b sh mm12) _ (by rw [emm12]; exact zW_c hs10) rfl ?_
    refine zr_aload_n F zd_XReader_readMaterial_25 rfl ?_
    refine zr_bipushv (v := 44) F zd_XReader_readMaterial_26 (by decide) ?_
    obtain ⟨le14, hs13, h⟩ := zoS_s h
    cases ep15 : F_XReader_need sh mm12 o 44 with
    | none =>
      rw [ep15] at h
      dsimp only [zoX] at h
      exact zr_thrV F hno (kT_XReader_need l D tA b sh _ hl h) zd_XReader_readMaterial_28 (zW_o hs13 (by decide)) rfl zs_XReader_45 rfl zq_XReader_need rfl rfl ⟨(Nat.le_of_ble_eq_true rfl), (Nat.le_of_ble_eq_true rfl)⟩ (Nat.le_of_ble_eq_true rfl) ⟨(Nat.le_of_ble_eq_true rfl), (Nat.le_of_ble_eq_true rfl)⟩ ⟨(Nat.le_of_ble_eq_true rfl), (Nat.le_of_ble_eq_true rfl)⟩
    | some p15 =>
      rw [ep15] at h
      dsimp only [zoX] at h
      refine zr_callV0 F (k_XReader_need l D tA b sh _ ep15) zd_XReader_readMaterial_28 (zW_o hs13 (by decide)) rfl zs_XReader_45 rfl zq_XReader_need rfl rfl ⟨(Nat.le_of_ble_eq_true rfl), (Nat.le_of_ble_eq_true rfl)⟩ (Nat.le_of_ble_eq_true rfl) ⟨(Nat.le_of_ble_eq_true rfl), (Nat.le_of_ble_eq_true rfl)⟩ ?_
      refine zr_aload_n F zd_XReader_readMaterial_31 rfl ?_
      refine zr_iconstv (v := 4) F zd_XReader_readMaterial_32 (by decide) ?_
      refine zr_aload_n F zd_XReader_readMaterial_33 rfl ?_
      refine zr_ldcS F 20 "texture" zd_XReader_readMaterial_34 (by decide +kernel) ?_
      refine zr_pcn 36 rfl ?_
      refine zr_iconstv (v := (-1)) F zd_XReader_readMaterial_36 (by decide) ?_
      refine zr_aload_n F zd_XReader_readMaterial_37 rfl ?_
      obtain ⟨le17, hs16, h⟩ := zoS_s h
      obtain ⟨a18, ea18, h⟩ := zoB_s h
      refine zr_get F 7 7 zd_XReader_readMaterial_38 (zW_o hs16 (by decide)) rfl (by decide) zw_55 rfl (by rfl) ?_
      refine zr_tor ea18 ?_
      obtain ⟨le20, hs19, h⟩ := zoS_s h
      obtain ⟨a21, ea21, h⟩ := zoB_s h
      refine zr_get F 8 0 zd_XReader_readMaterial_41 (zW_o hs19 (by decide)) rfl (by decide) zw_284 rfl (by rfl) ?_
      refine zr_tor ea21 ?_
      refine zr_iconstv (v := 0) F zd_XReader_readMaterial_44 (by decide) ?_
      obtain ⟨le23, hs22, h⟩ := zoS_s h
      obtain ⟨hi24, h⟩ := zoI_s h
      refine zr_iald F zd_XReader_readMaterial_45 (zW_a0 hs22) hi24 ?_
      refine zr_iconstv (v := 1) F zd_XReader_readMaterial_46 (by decide) ?_
      refine zr_isub F zd_XReader_readMaterial_47 ?_
      refine zr_pcn 48 rfl ?_
      obtain ⟨le26, hs25, h⟩ := zoS_s h
      obtain ⟨x27, ex27, h⟩ := zoL_s h
      rw [← ex27]
      cases ep28 : F_XReader_number sh p15 o 20 (-1) x27 with
      | none =>
        rw [ep28] at h
        dsimp only [zoX] at h
        exact zr_thrV F hno (kT_XReader_number l D tA b sh _ hl h) zd_XReader_readMaterial_48 (zW_o hs25 (by decide)) rfl zs_XReader_138 rfl zq_XReader_number rfl rfl ⟨(Nat.le_of_ble_eq_true rfl), (Nat.le_of_ble_eq_true rfl)⟩ (Nat.le_of_ble_eq_true rfl) ⟨(Nat.le_of_ble_eq_true rfl), (Nat.le_of_ble_eq_true rfl)⟩ ⟨(Nat.le_of_ble_eq_true rfl), (Nat.le_of_ble_eq_true rfl)⟩
      | some p28 =>
        rw [ep28] at h
        dsimp only [zoX] at h
        refine zr_callV1 F (k_XReader_number l D tA b sh _ ep28) zd_XReader_readMaterial_48 (zW_o hs25 (by decide)) rfl zs_XReader_138 rfl zq_XReader_number rfl rfl ⟨(Nat.le_of_ble_eq_true rfl), (Nat.le_of_ble_eq_true rfl)⟩ (Nat.le_of_ble_eq_true rfl) ⟨(Nat.le_of_ble_eq_true rfl), (Nat.le_of_ble_eq_true rfl)⟩ ?_
        obtain ⟨le30, hs29, h⟩ := zoS_s h
        obtain ⟨hi31, h⟩ := zoI_s h
        refine zr_iast F zd_XReader_readMaterial_51 (zW_a0 hs29) hi31 ?_
        obtain ⟨mm32, emm32, h⟩ := zoL_s h
        refine zr_norm (zW tA b sh mm32) _ (by rw [emm32]; exact zW_s0 hs29) rfl ?_
        refine zr_aload_n F zd_XReader_readMaterial_52 rfl ?_
        refine zr_bipushv (v := 44) F zd_XReader_readMaterial_53 (by decide) ?_
        obtain ⟨le34, hs33, h⟩ := zoS_s h
        cases ep35 : F_XReader_need sh mm32 o 44 with
        | none =>
          rw [ep35] at h
          dsimp only [zoX] at h
          exact zr_thrV F hno (kT_XReader_need l D tA b sh _ hl h) zd_XReader_readMaterial_55 (zW_o hs33 (by decide)) rfl zs_XReader_45 rfl zq_XReader_need rfl rfl ⟨(Nat.le_of_ble_eq_true rfl), (Nat.le_of_ble_eq_true rfl)⟩ (Nat.le_of_ble_eq_true rfl) ⟨(Nat.le_of_ble_eq_true rfl), (Nat.le_of_ble_eq_true rfl)⟩ ⟨(Nat.le_of_ble_eq_true rfl), (Nat.le_of_ble_eq_true rfl)⟩
        | some p35 =>
          rw [ep35] at h
          dsimp only [zoX] at h
          refine zr_callV0 F (k_XReader_need l D tA b sh _ ep35) zd_XReader_readMaterial_55 (zW_o hs33 (by decide)) rfl zs_XReader_45 rfl zq_XReader_need rfl rfl ⟨(Nat.le_of_ble_eq_true rfl), (Nat.le_of_ble_eq_true rfl)⟩ (Nat.le_of_ble_eq_true rfl) ⟨(Nat.le_of_ble_eq_true rfl), (Nat.le_of_ble_eq_true rfl)⟩ ?_
          refine zr_aload_n F zd_XReader_readMaterial_58 rfl ?_
          refine zr_iconstv (v := 5) F zd_XReader_readMaterial_59 (by decide) ?_
          refine zr_aload_n F zd_XReader_readMaterial_60 rfl ?_
          refine zr_pcn 61 rfl ?_
          refine zr_ldcS F 21 "both" zd_XReader_readMaterial_61 (by decide +kernel) ?_
          refine zr_iconstv (v := 0) F zd_XReader_readMaterial_63 (by decide) ?_
          refine zr_iconstv (v := 1) F zd_XReader_readMaterial_64 (by decide) ?_
          obtain ⟨le37, hs36, h⟩ := zoS_s h
          cases ep38 : F_XReader_number sh p35 o 21 0 1 with
          | none =>
            rw [ep38] at h
            dsimp only [zoX] at h
            exact zr_thrV F hno (kT_XReader_number l D tA b sh _ hl h) zd_XReader_readMaterial_65 (zW_o hs36 (by decide)) rfl zs_XReader_138 rfl zq_XReader_number rfl rfl ⟨(Nat.le_of_ble_eq_true rfl), (Nat.le_of_ble_eq_true rfl)⟩ (Nat.le_of_ble_eq_true rfl) ⟨(Nat.le_of_ble_eq_true rfl), (Nat.le_of_ble_eq_true rfl)⟩ ⟨(Nat.le_of_ble_eq_true rfl), (Nat.le_of_ble_eq_true rfl)⟩
          | some p38 =>
            rw [ep38] at h
            dsimp only [zoX] at h
            refine zr_callV1 F (k_XReader_number l D tA b sh _ ep38) zd_XReader_readMaterial_65 (zW_o hs36 (by decide)) rfl zs_XReader_138 rfl zq_XReader_number rfl rfl ⟨(Nat.le_of_ble_eq_true rfl), (Nat.le_of_ble_eq_true rfl)⟩ (Nat.le_of_ble_eq_true rfl) ⟨(Nat.le_of_ble_eq_true rfl), (Nat.le_of_ble_eq_true rfl)⟩ ?_
            obtain ⟨le40, hs39, h⟩ := zoS_s h
            obtain ⟨hi41, h⟩ := zoI_s h
            refine zr_iast F zd_XReader_readMaterial_68 (zW_a0 hs39) hi41 ?_
            obtain ⟨mm42, emm42, h⟩ := zoL_s h
            refine zr_norm (zW tA b sh mm42) _ (by rw [emm42]; exact zW_s0 hs39) rfl ?_
            cases h
abbrev zb_XReader_readMesh : ByteArray := prog_8_method_7_code
def zy_XReader_readMesh : MethodName := ⟨"OrreryBox$Reader", "readMesh", "(LOrreryBox$Mesh;)V"⟩
theorem zc_XReader_readMesh : Cond.code zy_XReader_readMesh zb_XReader_readMesh 5 none ∈ gw := gw_t 1253 (by decide +kernel) rfl
theorem zq_XReader_readMesh : zy_XReader_readMesh.cls ≠ "java/lang/invoke/MethodHandle" ∧ zy_XReader_readMesh.cls ≠ "java/lang/invoke/VarHandle" ∧ (parseMethodDescriptor zy_XReader_readMesh.desc).map (fun d => d.parameters.length) = some 1 := by decide +kernel
theorem zd_XReader_readMesh_0 : decode zb_XReader_readMesh 0 = .ok (.aload_n 1, 1) := by decide +kernel
theorem zd_XReader_readMesh_1 : decode zb_XReader_readMesh 1 = .ok (.aload_n 0, 1) := by decide +kernel
theorem zd_XReader_readMesh_2 : decode zb_XReader_readMesh 2 = .ok (.ldc 179, 2) := by decide +kernel
theorem zd_XReader_readMesh_4 : decode zb_XReader_readMesh 4 = .ok (.iconst 0, 1) := by decide +kernel
theorem zd_XReader_readMesh_5 : decode zb_XReader_readMesh 5 = .ok (.aload_n 0, 1) := by decide +kernel
theorem zd_XReader_readMesh_6 : decode zb_XReader_readMesh 6 = .ok (.getfield 23, 3) := by decide +kernel
theorem zd_XReader_readMesh_9 : decode zb_XReader_readMesh 9 = .ok (.getfield 133, 3) := by decide +kernel
theorem zd_XReader_readMesh_12 : decode zb_XReader_readMesh 12 = .ok (.iconst 1, 1) := by decide +kernel
theorem zd_XReader_readMesh_13 : decode zb_XReader_readMesh 13 = .ok (.iaload, 1) := by decide +kernel
theorem zd_XReader_readMesh_14 : decode zb_XReader_readMesh 14 = .ok (.iconst 1, 1) := by decide +kernel
theorem zd_XReader_readMesh_15 : decode zb_XReader_readMesh 15 = .ok (.isub, 1) := by decide +kernel
theorem zd_XReader_readMesh_16 : decode zb_XReader_readMesh 16 = .ok (.invokevirtual 138, 3) := by decide +kernel
theorem zd_XReader_readMesh_19 : decode zb_XReader_readMesh 19 = .ok (.putfield 181, 3) := by decide +kernel
theorem zd_XReader_readMesh_22 : decode zb_XReader_readMesh 22 = .ok (.aload_n 0, 1) := by decide +kernel
theorem zd_XReader_readMesh_23 : decode zb_XReader_readMesh 23 = .ok (.bipush 44, 2) := by decide +kernel
theorem zd_XReader_readMesh_25 : decode zb_XReader_readMesh 25 = .ok (.invokevirtual 45, 3) := by decide +kernel
theorem zd_XReader_readMesh_28 : decode zb_XReader_readMesh 28 = .ok (.aload_n 0, 1) := by decide +kernel
theorem zd_XReader_readMesh_29 : decode zb_XReader_readMesh 29 = .ok (.ldc 185, 2) := by decide +kernel
theorem zd_XReader_readMesh_31 : decode zb_XReader_readMesh 31 = .ok (.sipush 384, 3) := by decide +kernel
theorem zd_XReader_readMesh_34 : decode zb_XReader_readMesh 34 = .ok (.iconst 3, 1) := by decide +kernel
theorem zd_XReader_readMesh_35 : decode zb_XReader_readMesh 35 = .ok (.ldc 187, 2) := by decide +kernel
theorem zd_XReader_readMesh_37 : decode zb_XReader_readMesh 37 = .ok (.ldc 188, 2) := by decide +kernel
theorem zd_XReader_readMesh_39 : decode zb_XReader_readMesh 39 = .ok (.iconst 0, 1) := by decide +kernel
theorem zd_XReader_readMesh_40 : decode zb_XReader_readMesh 40 = .ok (.invokevirtual 160, 3) := by decide +kernel
theorem zd_XReader_readMesh_43 : decode zb_XReader_readMesh 43 = .ok (.istore_n 2, 1) := by decide +kernel
theorem zd_XReader_readMesh_44 : decode zb_XReader_readMesh 44 = .ok (.aload_n 0, 1) := by decide +kernel
theorem zd_XReader_readMesh_45 : decode zb_XReader_readMesh 45 = .ok (.getfield 9, 3) := by decide +kernel
theorem zd_XReader_readMesh_48 : decode zb_XReader_readMesh 48 = .ok (.iconst 0, 1) := by decide +kernel
theorem zd_XReader_readMesh_49 : decode zb_XReader_readMesh 49 = .ok (.aload_n 1, 1) := by decide +kernel
theorem zd_XReader_readMesh_50 : decode zb_XReader_readMesh 50 = .ok (.getfield 189, 3) := by decide +kernel
theorem zd_XReader_readMesh_53 : decode zb_XReader_readMesh 53 = .ok (.iconst 0, 1) := by decide +kernel
theorem zd_XReader_readMesh_54 : decode zb_XReader_readMesh 54 = .ok (.iload_n 2, 1) := by decide +kernel
theorem zd_XReader_readMesh_55 : decode zb_XReader_readMesh 55 = .ok (.invokestatic 169, 3) := by decide +kernel
theorem zd_XReader_readMesh_58 : decode zb_XReader_readMesh 58 = .ok (.aload_n 1, 1) := by decide +kernel
theorem zd_XReader_readMesh_59 : decode zb_XReader_readMesh 59 = .ok (.iload_n 2, 1) := by decide +kernel
theorem zd_XReader_readMesh_60 : decode zb_XReader_readMesh 60 = .ok (.iconst 3, 1) := by decide +kernel
theorem zd_XReader_readMesh_61 : decode zb_XReader_readMesh 61 = .ok (.idiv, 1) := by decide +kernel
theorem zd_XReader_readMesh_62 : decode zb_XReader_readMesh 62 = .ok (.putfield 191, 3) := by decide +kernel
theorem zd_XReader_readMesh_65 : decode zb_XReader_readMesh 65 = .ok (.aload_n 0, 1) := by decide +kernel
theorem zd_XReader_readMesh_66 : decode zb_XReader_readMesh 66 = .ok (.bipush 44, 2) := by decide +kernel
theorem zd_XReader_readMesh_68 : decode zb_XReader_readMesh 68 = .ok (.invokevirtual 45, 3) := by decide +kernel
theorem zd_XReader_readMesh_71 : decode zb_XReader_readMesh 71 = .ok (.aload_n 0, 1) := by decide +kernel
theorem zd_XReader_readMesh_72 : decode zb_XReader_readMesh 72 = .ok (.ldc 194, 2) := by decide +kernel
theorem zd_XReader_readMesh_74 : decode zb_XReader_readMesh 74 = .ok (.iload_n 2, 1) := by decide +kernel
theorem zd_XReader_readMesh_75 : decode zb_XReader_readMesh 75 = .ok (.iload_n 2, 1) := by decide +kernel
theorem zd_XReader_readMesh_76 : decode zb_XReader_readMesh 76 = .ok (.ldc 196, 2) := by decide +kernel
theorem zd_XReader_readMesh_78 : decode zb_XReader_readMesh 78 = .ok (.ldc 197, 2) := by decide +kernel
theorem zd_XReader_readMesh_80 : decode zb_XReader_readMesh 80 = .ok (.iconst 0, 1) := by decide +kernel
theorem zd_XReader_readMesh_81 : decode zb_XReader_readMesh 81 = .ok (.invokevirtual 160, 3) := by decide +kernel
theorem zd_XReader_readMesh_84 : decode zb_XReader_readMesh 84 = .ok (.pop, 1) := by decide +kernel
theorem zd_XReader_readMesh_85 : decode zb_XReader_readMesh 85 = .ok (.aload_n 0, 1) := by decide +kernel
theorem zd_XReader_readMesh_86 : decode zb_XReader_readMesh 86 = .ok (.getfield 9, 3) := by decide +kernel
theorem zd_XReader_readMesh_89 : decode zb_XReader_readMesh 89 = .ok (.iconst 0, 1) := by decide +kernel
theorem zd_XReader_readMesh_90 : decode zb_XReader_readMesh 90 = .ok (.aload_n 1, 1) := by decide +kernel
theorem zd_XReader_readMesh_91 : decode zb_XReader_readMesh 91 = .ok (.getfield 198, 3) := by decide +kernel
theorem zd_XReader_readMesh_94 : decode zb_XReader_readMesh 94 = .ok (.iconst 0, 1) := by decide +kernel
theorem zd_XReader_readMesh_95 : decode zb_XReader_readMesh 95 = .ok (.iload_n 2, 1) := by decide +kernel
theorem zd_XReader_readMesh_96 : decode zb_XReader_readMesh 96 = .ok (.invokestatic 169, 3) := by decide +kernel
theorem zd_XReader_readMesh_99 : decode zb_XReader_readMesh 99 = .ok (.aload_n 0, 1) := by decide +kernel
theorem zd_XReader_readMesh_100 : decode zb_XReader_readMesh 100 = .ok (.bipush 44, 2) := by decide +kernel
theorem zd_XReader_readMesh_102 : decode zb_XReader_readMesh 102 = .ok (.invokevirtual 45, 3) := by decide +kernel
theorem zd_XReader_readMesh_105 : decode zb_XReader_readMesh 105 = .ok (.iconst 2, 1) := by decide +kernel
theorem zd_XReader_readMesh_106 : decode zb_XReader_readMesh 106 = .ok (.aload_n 1, 1) := by decide +kernel
theorem zd_XReader_readMesh_107 : decode zb_XReader_readMesh 107 = .ok (.getfield 191, 3) := by decide +kernel
theorem zd_XReader_readMesh_110 : decode zb_XReader_readMesh 110 = .ok (.imul, 1) := by decide +kernel
theorem zd_XReader_readMesh_111 : decode zb_XReader_readMesh 111 = .ok (.istore_n 3, 1) := by decide +kernel
theorem zd_XReader_readMesh_112 : decode zb_XReader_readMesh 112 = .ok (.aload_n 0, 1) := by decide +kernel
theorem zd_XReader_readMesh_113 : decode zb_XReader_readMesh 113 = .ok (.ldc 200, 2) := by decide +kernel
theorem zd_XReader_readMesh_115 : decode zb_XReader_readMesh 115 = .ok (.iload_n 3, 1) := by decide +kernel
theorem zd_XReader_readMesh_116 : decode zb_XReader_readMesh 116 = .ok (.iload_n 3, 1) := by decide +kernel
theorem zd_XReader_readMesh_117 : decode zb_XReader_readMesh 117 = .ok (.ldc 202, 2) := by decide +kernel
theorem zd_XReader_readMesh_119 : decode zb_XReader_readMesh 119 = .ok (.ldc 203, 2) := by decide +kernel
theorem zd_XReader_readMesh_121 : decode zb_XReader_readMesh 121 = .ok (.iconst 0, 1) := by decide +kernel
theorem zd_XReader_readMesh_122 : decode zb_XReader_readMesh 122 = .ok (.invokevirtual 160, 3) := by decide +kernel
theorem zd_XReader_readMesh_125 : decode zb_XReader_readMesh 125 = .ok (.pop, 1) := by decide +kernel
theorem zd_XReader_readMesh_126 : decode zb_XReader_readMesh 126 = .ok (.aload_n 0, 1) := by decide +kernel
theorem zd_XReader_readMesh_127 : decode zb_XReader_readMesh 127 = .ok (.getfield 9, 3) := by decide +kernel
theorem zd_XReader_readMesh_130 : decode zb_XReader_readMesh 130 = .ok (.iconst 0, 1) := by decide +kernel
theorem zd_XReader_readMesh_131 : decode zb_XReader_readMesh 131 = .ok (.aload_n 1, 1) := by decide +kernel
theorem zd_XReader_readMesh_132 : decode zb_XReader_readMesh 132 = .ok (.getfield 204, 3) := by decide +kernel
theorem zd_XReader_readMesh_135 : decode zb_XReader_readMesh 135 = .ok (.iconst 0, 1) := by decide +kernel
theorem zd_XReader_readMesh_136 : decode zb_XReader_readMesh 136 = .ok (.iload_n 3, 1) := by decide +kernel
theorem zd_XReader_readMesh_137 : decode zb_XReader_readMesh 137 = .ok (.invokestatic 169, 3) := by decide +kernel
theorem zd_XReader_readMesh_140 : decode zb_XReader_readMesh 140 = .ok (.aload_n 0, 1) := by decide +kernel
theorem zd_XReader_readMesh_141 : decode zb_XReader_readMesh 141 = .ok (.bipush 44, 2) := by decide +kernel
theorem zd_XReader_readMesh_143 : decode zb_XReader_readMesh 143 = .ok (.invokevirtual 45, 3) := by decide +kernel
theorem zd_XReader_readMesh_146 : decode zb_XReader_readMesh 146 = .ok (.aload_n 0, 1) := by decide +kernel
theorem zd_XReader_readMesh_147 : decode zb_XReader_readMesh 147 = .ok (.ldc 206, 2) := by decide +kernel
theorem zd_XReader_readMesh_149 : decode zb_XReader_readMesh 149 = .ok (.sipush 384, 3) := by decide +kernel
theorem zd_XReader_readMesh_152 : decode zb_XReader_readMesh 152 = .ok (.iconst 3, 1) := by decide +kernel
theorem zd_XReader_readMesh_153 : decode zb_XReader_readMesh 153 = .ok (.iconst 0, 1) := by decide +kernel
theorem zd_XReader_readMesh_154 : decode zb_XReader_readMesh 154 = .ok (.aload_n 1, 1) := by decide +kernel
theorem zd_XReader_readMesh_155 : decode zb_XReader_readMesh 155 = .ok (.getfield 191, 3) := by decide +kernel
theorem zd_XReader_readMesh_158 : decode zb_XReader_readMesh 158 = .ok (.iconst 1, 1) := by decide +kernel
theorem zd_XReader_readMesh_159 : decode zb_XReader_readMesh 159 = .ok (.isub, 1) := by decide +kernel
theorem zd_XReader_readMesh_160 : decode zb_XReader_readMesh 160 = .ok (.iconst 0, 1) := by decide +kernel
theorem zd_XReader_readMesh_161 : decode zb_XReader_readMesh 161 = .ok (.invokevirtual 160, 3) := by decide +kernel
theorem zd_XReader_readMesh_164 : decode zb_XReader_readMesh 164 = .ok (.istore 4, 2) := by decide +kernel
theorem zd_XReader_readMesh_166 : decode zb_XReader_readMesh 166 = .ok (.aload_n 0, 1) := by decide +kernel
theorem zd_XReader_readMesh_167 : decode zb_XReader_readMesh 167 = .ok (.getfield 9, 3) := by decide +kernel
theorem zd_XReader_readMesh_170 : decode zb_XReader_readMesh 170 = .ok (.iconst 0, 1) := by decide +kernel
theorem zd_XReader_readMesh_171 : decode zb_XReader_readMesh 171 = .ok (.aload_n 1, 1) := by decide +kernel
theorem zd_XReader_readMesh_172 : decode zb_XReader_readMesh 172 = .ok (.getfield 208, 3) := by decide +kernel
theorem zd_XReader_readMesh_175 : decode zb_XReader_readMesh 175 = .ok (.iconst 0, 1) := by decide +kernel
theorem zd_XReader_readMesh_176 : decode zb_XReader_readMesh 176 = .ok (.iload 4, 2) := by decide +kernel
theorem zd_XReader_readMesh_178 : decode zb_XReader_readMesh 178 = .ok (.invokestatic 169, 3) := by decide +kernel
theorem zd_XReader_readMesh_181 : decode zb_XReader_readMesh 181 = .ok (.aload_n 1, 1) := by decide +kernel
theorem zd_XReader_readMesh_182 : decode zb_XReader_readMesh 182 = .ok (.iload 4, 2) := by decide +kernel
theorem zd_XReader_readMesh_184 : decode zb_XReader_readMesh 184 = .ok (.iconst 3, 1) := by decide +kernel
theorem zd_XReader_readMesh_185 : decode zb_XReader_readMesh 185 = .ok (.idiv, 1) := by decide +kernel
theorem zd_XReader_readMesh_186 : decode zb_XReader_readMesh 186 = .ok (.putfield 210, 3) := by decide +kernel
theorem zd_XReader_readMesh_189 : decode zb_XReader_readMesh 189 = .ok (.return_, 1) := by decide +kernel
theorem zw_176 : (Jvm.Cond.fieldLink "OrreryBox$Reader" (181 : Nat) "OrreryBox$Mesh" "material" "I") ∈ gw := gw_t 176 (by decide +kernel) rfl
theorem zf_I_2_0 (b : Nat) (m : zMem) (k : Nat) (v : Int32) : (zfl b 2 m k).set 0 (.int v) = zfl b 2 (mI m k 0 v) k := by simp [zfl, mI, upd, vp_updL]
theorem zw_1204 : (Jvm.Cond.constant "OrreryBox$Reader" (187 : Nat) (-1048576 : Int32)) ∈ gw := gw_t 1204 (by decide +kernel) rfl
theorem zw_1205 : (Jvm.Cond.constant "OrreryBox$Reader" (188 : Nat) (1048576 : Int32)) ∈ gw := gw_t 1205 (by decide +kernel) rfl
theorem zw_183 : (Jvm.Cond.fieldLink "OrreryBox$Reader" (189 : Nat) "OrreryBox$Mesh" "points" "[I") ∈ gw := gw_t 183 (by decide +kernel) rfl
theorem zw_178 : (Jvm.Cond.fieldLink "OrreryBox$Reader" (191 : Nat) "OrreryBox$Mesh" "pointCount" "I") ∈ gw := gw_t 178 (by decide +kernel) rfl
theorem zf_I_2_1 (b : Nat) (m : zMem) (k : Nat) (v : Int32) : (zfl b 2 m k).set 1 (.int v) = zfl b 2 (mI m k 1 v) k := by simp [zfl, mI, upd, vp_updL]
theorem zw_1216 : (Jvm.Cond.constant "OrreryBox$Reader" (196 : Nat) (-65536 : Int32)) ∈ gw := gw_t 1216 (by decide +kernel) rfl
theorem zw_1217 : (Jvm.Cond.constant "OrreryBox$Reader" (197 : Nat) (65536 : Int32)) ∈ gw := gw_t 1217 (by decide +kernel) rfl
theorem zw_186 : (Jvm.Cond.fieldLink "OrreryBox$Reader" (198 : Nat) "OrreryBox$Mesh" "normals" "[I") ∈ gw := gw_t 186 (by decide +kernel) rfl
theorem zw_1258 : (Jvm.Cond.constant "OrreryBox$Reader" (202 : Nat) (-131072 : Int32)) ∈ gw := gw_t 1258 (by decide +kernel) rfl
theorem zw_1259 : (Jvm.Cond.constant "OrreryBox$Reader" (203 : Nat) (131072 : Int32)) ∈ gw := gw_t 1259 (by decide +kernel) rfl
theorem zw_189 : (Jvm.Cond.fieldLink "OrreryBox$Reader" (204 : Nat) "OrreryBox$Mesh" "places" "[I") ∈ gw := gw_t 189 (by decide +kernel) rfl
theorem zw_192 : (Jvm.Cond.fieldLink "OrreryBox$Reader" (208 : Nat) "OrreryBox$Mesh" "faces" "[I") ∈ gw := gw_t 192 (by decide +kernel) rfl
theorem zw_180 : (Jvm.Cond.fieldLink "OrreryBox$Reader" (210 : Nat) "OrreryBox$Mesh" "faceCount" "I") ∈ gw := gw_t 180 (by decide +kernel) rfl
theorem zf_I_2_2 (b : Nat) (m : zMem) (k : Nat) (v : Int32) : (zfl b 2 m k).set 2 (.int v) = zfl b 2 (mI m k 2 v) k := by simp [zfl, mI, upd, vp_updL]
def F_XReader_readMesh (sh : zSh) (mm : zMem) (o : Nat) (x0_ : Nat) : Option zMem := zoS (sh o) 7 (fun le2 => Option.bind (mm.2.2 o 7) (fun a3 => zoS (sh a3) 8 (fun le5 => Option.bind (mm.2.2 a3 0) (fun a6 => zoS (sh a6) 100 (fun le8 => if (1 : Int32) < 0 ∨ le8 ≤ (1 : Int32).toNatClampNeg then none else zoS (sh o) 7 (fun le11 => zoL ((mm.1 a6 (1 : Int32).toNatClampNeg) - 1) (fun x12 => Option.bind (F_XReader_number sh mm o 22 0 x12) (fun p13 => zoS (sh x0_) 2 (fun le15 => zoL (mI (p13.2) x0_ 0 (p13.1)) (fun mm16 => zoS (sh o) 7 (fun le18 => Option.bind (F_XReader_need sh mm16 o 44) (fun p19 => zoS (sh o) 7 (fun le21 => Option.bind (F_XReader_numbers sh p19 o 23 384 3 (-1048576) 1048576 0) (fun p22 => zoS (sh o) 7 (fun le24 => Option.bind ((p22.2).2.2 o 2) (fun a25 => zoS (sh x0_) 2 (fun le27 => Option.bind ((p22.2).2.2 x0_ 3) (fun a28 => zoS (sh a25) 100 (fun le29 => zoS (sh a28) 100 (fun le31 => if ¬ (0 : Int32) < 0 ∧ ¬ (0 : Int32) < 0 ∧ ¬ (p22.1 : Int32) < 0 ∧ (0 : Int32).toNatClampNeg + (p22.1 : Int32).toNatClampNeg ≤ le29 ∧ (0 : Int32).toNatClampNeg + (p22.1 : Int32).toNatClampNeg ≤ le31 then zoL (mC (p22.2) a25 a28 (0 : Int32).toNatClampNeg (0 : Int32).toNatClampNeg (p22.1 : Int32).toNatClampNeg) (fun mm34 => zoL (p22.1 / 3) (fun x35 => zoS (sh x0_) 2 (fun le37 => zoL (mI mm34 x0_ 1 x35) (fun mm38 => zoS (sh o) 7 (fun le40 => Option.bind (F_XReader_need sh mm38 o 44) (fun p41 => zoS (sh o) 7 (fun le43 => Option.bind (F_XReader_numbers sh p41 o 24 (p22.1) (p22.1) (-65536) 65536 0) (fun p44 => zoS (sh o) 7 (fun le46 => Option.bind ((p44.2).2.2 o 2) (fun a47 => zoS (sh x0_) 2 (fun le49 => Option.bind ((p44.2).2.2 x0_ 4) (fun a50 => zoS (sh a47) 100 (fun le51 => zoS (sh a50) 100 (fun le53 => if ¬ (0 : Int32) < 0 ∧ ¬ (0 : Int32) < 0 ∧ ¬ (p22.1 : Int32) < 0 ∧ (0 : Int32).toNatClampNeg + (p22.1 : Int32).toNatClampNeg ≤ le51 ∧ (0 : Int32).toNatClampNeg + (p22.1 : Int32).toNatClampNeg ≤ le53 then zoL (mC (p44.2) a47 a50 (0 : Int32).toNatClampNeg (0 : Int32).toNatClampNeg (p22.1 : Int32).toNatClampNeg) (fun mm56 => zoS (sh o) 7 (fun le58 => Option.bind (F_XReader_need sh mm56 o 44) (fun p59 => zoS (sh x0_) 2 (fun le61 => zoL (2 * (p59.1 x0_ 1)) (fun x62 => zoS (sh o) 7 (fun le64 => Option.bind (F_XReader_numbers sh p59 o 25 x62 x62 (-131072) 131072 0) (fun p65 => zoS (sh o) 7 (fun le67 => Option.bind ((p65.2).2.2 o 2) (fun a68 => zoS (sh x0_) 2 (fun le70 => Option.bind ((p65.2).2.2 x0_ 5) (fun a71 => zoS (sh a68) 100 (fun le72 => zoS (sh a71) 100 (fun le74 => if ¬ (0 : Int32) < 0 ∧ ¬ (0 : Int32) < 0 ∧ ¬ (x62 : Int32) < 0 ∧ (0 : Int32).toNatClampNeg + (x62 : Int32).toNatClampNeg ≤ le72 ∧ (0 : Int32).toNatClampNeg + (x62 : Int32).toNatClampNeg ≤ le74 then zoL (mC (p65.2) a68 a71 (0 : Int32).toNatClampNeg (0 : Int32).toNatClampNeg (x62 : Int32).toNatClampNeg) (fun mm77 => zoS (sh o) 7 (fun le79 => Option.bind (F_XReader_need sh mm77 o 44) (fun p80 => zoS (sh x0_) 2 (fun le82 => zoS (sh o) 7 (fun le84 => Option.bind (F_XReader_numbers sh p80 o 26 384 3 0 ((p80.1 x0_ 1) - 1) 0) (fun p85 => zoS (sh o) 7 (fun le87 => Option.bind ((p85.2).2.2 o 2) (fun a88 => zoS (sh x0_) 2 (fun le90 => Option.bind ((p85.2).2.2 x0_ 6) (fun a91 => zoS (sh a88) 100 (fun le92 => zoS (sh a91) 100 (fun le94 => if ¬ (0 : Int32) < 0 ∧ ¬ (0 : Int32) < 0 ∧ ¬ (p85.1 : Int32) < 0 ∧ (0 : Int32).toNatClampNeg + (p85.1 : Int32).toNatClampNeg ≤ le92 ∧ (0 : Int32).toNatClampNeg + (p85.1 : Int32).toNatClampNeg ≤ le94 then zoL (mC (p85.2) a88 a91 (0 : Int32).toNatClampNeg (0 : Int32).toNatClampNeg (p85.1 : Int32).toNatClampNeg) (fun mm97 => zoL (p85.1 / 3) (fun x98 => zoS (sh x0_) 2 (fun le100 => zoL (mI mm97 x0_ 2 x98) (fun mm101 => some mm101)))) else none)))))))))))) else none))))))))))))) else none)))))))))))))) else none))))))))))))))))))))
set_option maxHeartbeats 4000000 in
set_option maxRecDepth 100000 in
theorem k_XReader_readMesh (l : Launch) (D : va_G) (tA : Nat → ClassId) (b : Nat) (sh : zSh) (n : Nat) {mm : zMem} {o : Nat} {x0_ : Nat} {r : zMem} (h : F_XReader_readMesh sh mm o x0_ = some r) : zM l D tA b zy_XReader_readMesh zb_XReader_readMesh 5 none 7 158 0 0 [.ref (b + o), .ref (b + x0_)] (zW tA b sh mm) n (zE none (zW tA b sh r) n) := by
  unfold F_XReader_readMesh at h
  refine zM_of (own := "OrreryBox$Reader") (plainFor_of_name (by decide)) rfl (Nat.le_of_ble_eq_true rfl) (fun p e s m below meth c F hr hin hH => ?_)
  refine zr_aload_n F zd_XReader_readMesh_0 rfl ?_
  refine zr_aload_n F zd_XReader_readMesh_1 rfl ?_
  refine zr_ldcS F 22 "material" zd_XReader_readMesh_2 (by decide +kernel) ?_
  refine zr_iconstv (v := 0) F zd_XReader_readMesh_4 (by decide) ?_
  refine zr_aload_n F zd_XReader_readMesh_5 rfl ?_
  obtain ⟨le2, hs1, h⟩ := zoS_s h
  obtain ⟨a3, ea3, h⟩ := zoB_s h
  refine zr_get F 7 7 zd_XReader_readMesh_6 (zW_o hs1 (by decide)) rfl (by decide) zw_55 rfl (by rfl) ?_
  refine zr_tor ea3 ?_
  obtain ⟨le5, hs4, h⟩ := zoS_s h
  obtain ⟨a6, ea6, h⟩ := zoB_s h
  refine zr_get F 8 0 zd_XReader_readMesh_9 (zW_o hs4 (by decide)) rfl (by decide) zw_284 rfl (by rfl) ?_
  refine zr_tor ea6 ?_
  refine zr_pcn 12 rfl ?_
  refine zr_iconstv (v := 1) F zd_XReader_readMesh_12 (by decide) ?_
  obtain ⟨le8, hs7, h⟩ := zoS_s h
  obtain ⟨hi9, h⟩ := zoI_s h
  refine zr_iald F zd_XReader_readMesh_13 (zW_a0 hs7) hi9 ?_
  refine zr_iconstv (v := 1) F zd_XReader_readMesh_14 (by decide) ?_
  refine zr_isub F zd_XReader_readMesh_15 ?_
  obtain ⟨le11, hs10, h⟩ := zoS_s h
  obtain ⟨x12, ex12, h⟩ := zoL_s h
  rw [← ex12]
  obtain ⟨p13, ep13, h⟩ := zoB_s h
  refine zr_callV1 F (k_XReader_number l D tA b sh _ ep13) zd_XReader_readMesh_16 (zW_o hs10 (by decide)) rfl zs_XReader_138 rfl zq_XReader_number rfl rfl ⟨(Nat.le_of_ble_eq_true rfl), (Nat.le_of_ble_eq_true rfl)⟩ (Nat.le_of_ble_eq_true rfl) ⟨(Nat.le_of_ble_eq_true rfl), (Nat.le_of_ble_eq_true rfl)⟩ ?_
  obtain ⟨le15, hs14, h⟩ := zoS_s h
  refine zr_put F 2 0 zd_XReader_readMesh_19 (zW_o hs14 (by decide)) rfl (by decide) zw_176 rfl rfl rfl rfl (by exact (Nat.le_of_ble_eq_true rfl)) ?_
  obtain ⟨mm16, emm16, h⟩ := zoL_s h
  refine zr_norm (zW tA b sh mm16) _ (by rw [emm16]; exact zW_pI (v := (p13.1)) hs14 (by decide) (zf_I_2_0 b _ _ _)) rfl ?_
  refine zr_aload_n F zd_XReader_readMesh_22 rfl ?_
  refine zr_bipushv (v := 44) F zd_XReader_readMesh_23 (by decide) ?_
  refine zr_pcn 25 rfl ?_
  obtain ⟨le18, hs17, h⟩ := zoS_s h
  obtain ⟨p19, ep19, h⟩ := zoB_s h
  refine zr_callV0 F (k_XReader_need l D tA b sh _ ep19) zd_XReader_readMesh_25 (zW_o hs17 (by decide)) rfl zs_XReader_45 rfl zq_XReader_need rfl rfl ⟨(Nat.le_of_ble_eq_true rfl), (Nat.le_of_ble_eq_true rfl)⟩ (Nat.le_of_ble_eq_true rfl) ⟨(Nat.le_of_ble_eq_true rfl), (Nat.le_of_ble_eq_true rfl)⟩ ?_
  refine zr_aload_n F zd_XReader_readMesh_28 rfl ?_
  refine zr_ldcS F 23 "points" zd_XReader_readMesh_29 (by decide +kernel) ?_
  refine zr_sipushv (v := 384) F zd_XReader_readMesh_31 (by decide) ?_
  refine zr_iconstv (v := 3) F zd_XReader_readMesh_34 (by decide) ?_
  refine zr_ldc F zd_XReader_readMesh_35 zw_1204 ?_
  refine zr_ldc F zd_XReader_readMesh_37 zw_1205 ?_
  refine zr_iconstv (v := 0) F zd_XReader_readMesh_39 (by decide) ?_
  refine zr_pcn 40 rfl ?_
  obtain ⟨le21, hs20, h⟩ := zoS_s h
  obtain ⟨p22, ep22, h⟩ := zoB_s h
  refine zr_callV1 F (k_XReader_numbers l D tA b sh _ ep22) zd_XReader_readMesh_40 (zW_o hs20 (by decide)) rfl zs_XReader_160 rfl zq_XReader_numbers rfl rfl ⟨(Nat.le_of_ble_eq_true rfl), (Nat.le_of_ble_eq_true rfl)⟩ (Nat.le_of_ble_eq_true rfl) ⟨(Nat.le_of_ble_eq_true rfl), (Nat.le_of_ble_eq_true rfl)⟩ ?_
  refine zr_istore_n F zd_XReader_readMesh_43 (by decide) ?_
  refine zr_aload_n F zd_XReader_readMesh_44 rfl ?_
  obtain ⟨le24, hs23, h⟩ := zoS_s h
  obtain ⟨a25, ea25, h⟩ := zoB_s h
  refine zr_get F 7 2 zd_XReader_readMesh_45 (zW_o hs23 (by decide)) rfl (by decide) zw_50 rfl (by rfl) ?_
  refine zr_tor ea25 ?_
  refine zr_iconstv (v := 0) F zd_XReader_readMesh_48 (by decide) ?_
  refine zr_aload_n F zd_XReader_readMesh_49 rfl ?_
  obtain ⟨le27, hs26, h⟩ := zoS_s h
  obtain ⟨a28, ea28, h⟩ := zoB_s h
  refine zr_get F 2 3 zd_XReader_readMesh_50 (zW_o hs26 (by decide)) rfl (by decide) zw_183 rfl (by rfl) ?_
  refine zr_tor ea28 ?_
  refine zr_iconstv (v := 0) F zd_XReader_readMesh_53 (by decide) ?_
  refine zr_pcn 54 rfl ?_
  refine zr_iload_n F zd_XReader_readMesh_54 rfl ?_
  obtain ⟨le29, hs30, h⟩ := zoS_s h
  obtain ⟨le31, hs32, h⟩ := zoS_s h
  obtain ⟨hc33, h⟩ := zoT_s h
  obtain ⟨mm34, emm34, h⟩ := zoL_s h
  refine zr_copy F zd_XReader_readMesh_55 zw_1202 zw_724 zw_723 zw_26 (zW_a0 hs30) (zW_a0 hs32) hc33.1 hc33.2.1 hc33.2.2.1 hc33.2.2.2.1 hc33.2.2.2.2 (Nat.le_of_ble_eq_true rfl) (Nat.le_of_ble_eq_true rfl) ?_
  refine zr_norm (zW tA b sh mm34) _ (by rw [emm34]; exact zW_c hs32) rfl ?_
  refine zr_aload_n F zd_XReader_readMesh_58 rfl ?_
  refine zr_iload_n F zd_XReader_readMesh_59 rfl ?_
  refine zr_iconstv (v := 3) F zd_XReader_readMesh_60 (by decide) ?_
  refine zr_idiv F zd_XReader_readMesh_61 (by decide) ?_
  obtain ⟨x35, ex35, h⟩ := zoL_s h
  rw [← ex35]
  obtain ⟨le37, hs36, h⟩ := zoS_s h
  refine zr_put F 2 1 zd_XReader_readMesh_62 (zW_o hs36 (by decide)) rfl (by decide) zw_178 rfl rfl rfl rfl (by exact (Nat.le_of_ble_eq_true rfl)) ?_
  obtain ⟨mm38, emm38, h⟩ := zoL_s h
  refine zr_norm (zW tA b sh mm38) _ (by rw [emm38]; exact zW_pI (v := x35) hs36 (by decide) (zf_I_2_1 b _ _ _)) rfl ?_
  refine zr_aload_n F zd_XReader_readMesh_65 rfl ?_
  refine zr_pcn 66 rfl ?_
  refine zr_bipushv (v := 44) F zd_XReader_readMesh_66 (by decide) ?_
  obtain ⟨le40, hs39, h⟩ := zoS_s h
  obtain ⟨p41, ep41, h⟩ := zoB_s h
  refine zr_callV0 F (k_XReader_need l D tA b sh _ ep41) zd_XReader_readMesh_68 (zW_o hs39 (by decide)) rfl zs_XReader_45 rfl zq_XReader_need rfl rfl ⟨(Nat.le_of_ble_eq_true rfl), (Nat.le_of_ble_eq_true rfl)⟩ (Nat.le_of_ble_eq_true rfl) ⟨(Nat.le_of_ble_eq_true rfl), (Nat.le_of_ble_eq_true rfl)⟩ ?_
  refine zr_aload_n F zd_XReader_readMesh_71 rfl ?_
  refine zr_ldcS F 24 "normals" zd_XReader_readMesh_72 (by decide +kernel) ?_
  refine zr_iload_n F zd_XReader_readMesh_74 rfl ?_
  refine zr_iload_n F zd_XReader_readMesh_75 rfl ?_
  refine zr_ldc F zd_XReader_readMesh_76 zw_1216 ?_
  refine zr_ldc F zd_XReader_readMesh_78 zw_1217 ?_
  refine zr_pcn 80 rfl ?_
  refine zr_iconstv (v := 0) F zd_XReader_readMesh_80 (by decide) ?_
  obtain ⟨le43, hs42, h⟩ := zoS_s h
  obtain ⟨p44, ep44, h⟩ := zoB_s h
  refine zr_callV1 F (k_XReader_numbers l D tA b sh _ ep44) zd_XReader_readMesh_81 (zW_o hs42 (by decide)) rfl zs_XReader_160 rfl zq_XReader_numbers rfl rfl ⟨(Nat.le_of_ble_eq_true rfl), (Nat.le_of_ble_eq_true rfl)⟩ (Nat.le_of_ble_eq_true rfl) ⟨(Nat.le_of_ble_eq_true rfl), (Nat.le_of_ble_eq_true rfl)⟩ ?_
  refine zr_pop F zd_XReader_readMesh_84 rfl ?_
  refine zr_aload_n F zd_XReader_readMesh_85 rfl ?_
  obtain ⟨le46, hs45, h⟩ := zoS_s h
  obtain ⟨a47, ea47, h⟩ := zoB_s h
  refine zr_get F 7 2 zd_XReader_readMesh_86 (zW_o hs45 (by decide)) rfl (by decide) zw_50 rfl (by rfl) ?_
  refine zr_tor ea47 ?_
  refine zr_iconstv (v := 0) F zd_XReader_readMesh_89 (by decide) ?_
  refine zr_aload_n F zd_XReader_readMesh_90 rfl ?_
  obtain ⟨le49, hs48, h⟩ := zoS_s h
  obtain ⟨a50, ea50, h⟩ := zoB_s h
  refine zr_get F 2 4 zd_XReader_readMesh_91 (zW_o hs48 (by decide)) rfl (by decide) zw_186 rfl (by rfl) ?_
  refine zr_tor ea50 ?_
  refine zr_pcn 94 rfl ?_
  refine zr_iconstv (v := 0) F zd_XReader_readMesh_94 (by decide) ?_
  refine zr_iload_n F zd_XReader_readMesh_95 rfl ?_
  obtain ⟨le51, hs52, h⟩ := zoS_s h
  obtain ⟨le53, hs54, h⟩ := zoS_s h
  obtain ⟨hc55, h⟩ := zoT_s h
  obtain ⟨mm56, emm56, h⟩ := zoL_s h
  refine zr_copy F zd_XReader_readMesh_96 zw_1202 zw_724 zw_723 zw_26 (zW_a0 hs52) (zW_a0 hs54) hc55.1 hc55.2.1 hc55.2.2.1 hc55.2.2.2.1 hc55.2.2.2.2 (Nat.le_of_ble_eq_true rfl) (Nat.le_of_ble_eq_true rfl) ?_
  refine zr_norm (zW tA b sh mm56) _ (by rw [emm56]; exact zW_c hs54) rfl ?_
  refine zr_aload_n F zd_XReader_readMesh_99 rfl ?_
  refine zr_bipushv (v := 44) F zd_XReader_readMesh_100 (by decide) ?_
  obtain ⟨le58, hs57, h⟩ := zoS_s h
  obtain ⟨p59, ep59, h⟩ := zoB_s h
  refine zr_callV0 F (k_XReader_need l D tA b sh _ ep59) zd_XReader_readMesh_102 (zW_o hs57 (by decide)) rfl zs_XReader_45 rfl zq_XReader_need rfl rfl ⟨(Nat.le_of_ble_eq_true rfl), (Nat.le_of_ble_eq_true rfl)⟩ (Nat.le_of_ble_eq_true rfl) ⟨(Nat.le_of_ble_eq_true rfl), (Nat.le_of_ble_eq_true rfl)⟩ ?_
  refine zr_iconstv (v := 2) F zd_XReader_readMesh_105 (by decide) ?_
  refine zr_aload_n F zd_XReader_readMesh_106 rfl ?_
  refine zr_pcn 107 rfl ?_
  obtain ⟨le61, hs60, h⟩ := zoS_s h
  refine zr_get F 2 1 zd_XReader_readMesh_107 (zW_o hs60 (by decide)) rfl (by decide) zw_178 rfl (by rfl) ?_
  refine zr_imul F zd_XReader_readMesh_110 ?_
  obtain ⟨x62, ex62, h⟩ := zoL_s h
  rw [← ex62]
  refine zr_istore_n F zd_XReader_readMesh_111 (by decide) ?_
  refine zr_aload_n F zd_XReader_readMesh_112 rfl ?_
  refine zr_ldcS F 25 "places" zd_XReader_readMesh_113 (by decide +kernel) ?_
  refine zr_iload_n F zd_XReader_readMesh_115 rfl ?_
  refine zr_iload_n F zd_XReader_readMesh_116 rfl ?_
  refine zr_ldc F zd_XReader_readMesh_117 zw_1258 ?_
  refine zr_pcn 119 rfl ?_
  refine zr_ldc F zd_XReader_readMesh_119 zw_1259 ?_
  refine zr_iconstv (v := 0) F zd_XReader_readMesh_121 (by decide) ?_
  obtain ⟨le64, hs63, h⟩ := zoS_s h
  obtain ⟨p65, ep65, h⟩ := zoB_s h
  refine zr_callV1 F (k_XReader_numbers l D tA b sh _ ep65) zd_XReader_readMesh_122 (zW_o hs63 (by decide)) rfl zs_XReader_160 rfl zq_XReader_numbers rfl rfl ⟨(Nat.le_of_ble_eq_true rfl), (Nat.le_of_ble_eq_true rfl)⟩ (Nat.le_of_ble_eq_true rfl) ⟨(Nat.le_of_ble_eq_true rfl), (Nat.le_of_ble_eq_true rfl)⟩ ?_
  refine zr_pop F zd_XReader_readMesh_125 rfl ?_
  refine zr_aload_n F zd_XReader_readMesh_126 rfl ?_
  obtain ⟨le67, hs66, h⟩ := zoS_s h
  obtain ⟨a68, ea68, h⟩ := zoB_s h
  refine zr_get F 7 2 zd_XReader_readMesh_127 (zW_o hs66 (by decide)) rfl (by decide) zw_50 rfl (by rfl) ?_
  refine zr_tor ea68 ?_
  refine zr_iconstv (v := 0) F zd_XReader_readMesh_130 (by decide) ?_
  refine zr_aload_n F zd_XReader_readMesh_131 rfl ?_
  refine zr_pcn 132 rfl ?_
  obtain ⟨le70, hs69, h⟩ := zoS_s h
  obtain ⟨a71, ea71, h⟩ := zoB_s h
  refine zr_get F 2 5 zd_XReader_readMesh_132 (zW_o hs69 (by decide)) rfl (by decide) zw_189 rfl (by rfl) ?_
  refine zr_tor ea71 ?_
  refine zr_iconstv (v := 0) F zd_XReader_readMesh_135 (by decide) ?_
  refine zr_iload_n F zd_XReader_readMesh_136 rfl ?_
  obtain ⟨le72, hs73, h⟩ := zoS_s h
  obtain ⟨le74, hs75, h⟩ := zoS_s h
  obtain ⟨hc76, h⟩ := zoT_s h
  obtain ⟨mm77, emm77, h⟩ := zoL_s h
  refine zr_copy F zd_XReader_readMesh_137 zw_1202 zw_724 zw_723 zw_26 (zW_a0 hs73) (zW_a0 hs75) hc76.1 hc76.2.1 hc76.2.2.1 hc76.2.2.2.1 hc76.2.2.2.2 (Nat.le_of_ble_eq_true rfl) (Nat.le_of_ble_eq_true rfl) ?_
  refine zr_norm (zW tA b sh mm77) _ (by rw [emm77]; exact zW_c hs75) rfl ?_
  refine zr_aload_n F zd_XReader_readMesh_140 rfl ?_
  refine zr_bipushv (v := 44) F zd_XReader_readMesh_141 (by decide) ?_
  obtain ⟨le79, hs78, h⟩ := zoS_s h
  obtain ⟨p80, ep80, h⟩ := zoB_s h
  refine zr_callV0 F (k_XReader_need l D tA b sh _ ep80) zd_XReader_readMesh_143 (zW_o hs78 (by decide)) rfl zs_XReader_45 rfl zq_XReader_need rfl rfl ⟨(Nat.le_of_ble_eq_true rfl), (Nat.le_of_ble_eq_true rfl)⟩ (Nat.le_of_ble_eq_true rfl) ⟨(Nat.le_of_ble_eq_true rfl), (Nat.le_of_ble_eq_true rfl)⟩ ?_
  refine zr_aload_n F zd_XReader_readMesh_146 rfl ?_
  refine zr_pcn 147 rfl ?_
  refine zr_ldcS F 26 "faces" zd_XReader_readMesh_147 (by decide +kernel) ?_
  refine zr_sipushv (v := 384) F zd_XReader_readMesh_149 (by decide) ?_
  refine zr_iconstv (v := 3) F zd_XReader_readMesh_152 (by decide) ?_
  refine zr_iconstv (v := 0) F zd_XReader_readMesh_153 (by decide) ?_
  refine zr_aload_n F zd_XReader_readMesh_154 rfl ?_
  obtain ⟨le82, hs81, h⟩ := zoS_s h
  refine zr_get F 2 1 zd_XReader_readMesh_155 (zW_o hs81 (by decide)) rfl (by decide) zw_178 rfl (by rfl) ?_
  refine zr_iconstv (v := 1) F zd_XReader_readMesh_158 (by decide) ?_
  refine zr_isub F zd_XReader_readMesh_159 ?_
  refine zr_pcn 160 rfl ?_
  refine zr_iconstv (v := 0) F zd_XReader_readMesh_160 (by decide) ?_
  obtain ⟨le84, hs83, h⟩ := zoS_s h
  obtain ⟨p85, ep85, h⟩ := zoB_s h
  refine zr_callV1 F (k_XReader_numbers l D tA b sh _ ep85) zd_XReader_readMesh_161 (zW_o hs83 (by decide)) rfl zs_XReader_160 rfl zq_XReader_numbers rfl rfl ⟨(Nat.le_of_ble_eq_true rfl), (Nat.le_of_ble_eq_true rfl)⟩ (Nat.le_of_ble_eq_true rfl) ⟨(Nat.le_of_ble_eq_true rfl), (Nat.le_of_ble_eq_true rfl)⟩ ?_
  refine zr_istore F zd_XReader_readMesh_164 (by decide) ?_
  refine zr_aload_n F zd_XReader_readMesh_166 rfl ?_
  obtain ⟨le87, hs86, h⟩ := zoS_s h
  obtain ⟨a88, ea88, h⟩ := zoB_s h
  refine zr_get F 7 2 zd_XReader_readMesh_167 (zW_o hs86 (by decide)) rfl (by decide) zw_50 rfl (by rfl) ?_
  refine zr_tor ea88 ?_
  refine zr_iconstv (v := 0) F zd_XReader_readMesh_170 (by decide) ?_
  refine zr_aload_n F zd_XReader_readMesh_171 rfl ?_
  obtain ⟨le90, hs89, h⟩ := zoS_s h
  obtain ⟨a91, ea91, h⟩ := zoB_s h
  refine zr_get F 2 6 zd_XReader_readMesh_172 (zW_o hs89 (by decide)) rfl (by decide) zw_192 rfl (by rfl) ?_
  refine zr_tor ea91 ?_
  refine zr_pcn 175 rfl ?_
  refine zr_iconstv (v := 0) F zd_XReader_readMesh_175 (by decide) ?_
  refine zr_iload F zd_XReader_readMesh_176 rfl ?_
  obtain ⟨le92, hs93, h⟩ := zoS_s h
  obtain ⟨le94, hs95, h⟩ := zoS_s h
  obtain ⟨hc96, h⟩ := zoT_s h
  obtain ⟨mm97, emm97, h⟩ := zoL_s h
  refine zr_copy F zd_XReader_readMesh_178 zw_1202 zw_724 zw_723 zw_26 (zW_a0 hs93) (zW_a0 hs95) hc96.1 hc96.2.1 hc96.2.2.1 hc96.2.2.2.1 hc96.2.2.2.2 (Nat.le_of_ble_eq_true rfl) (Nat.le_of_ble_eq_true rfl) ?_
  refine zr_norm (zW tA b sh mm97) _ (by rw [emm97]; exact zW_c hs95) rfl ?_
  refine zr_aload_n F zd_XReader_readMesh_181 rfl ?_
  refine zr_iload F zd_XReader_readMesh_182 rfl ?_
  refine zr_iconstv (v := 3) F zd_XReader_readMesh_184 (by decide) ?_
  refine zr_idiv F zd_XReader_readMesh_185 (by decide) ?_
  obtain ⟨x98, ex98, h⟩ := zoL_s h
  rw [← ex98]
  obtain ⟨le100, hs99, h⟩ := zoS_s h
  refine zr_put F 2 2 zd_XReader_readMesh_186 (zW_o hs99 (by decide)) rfl (by decide) zw_180 rfl rfl rfl rfl (by exact (Nat.le_of_ble_eq_true rfl)) ?_
  obtain ⟨mm101, emm101, h⟩ := zoL_s h
  refine zr_norm (zW tA b sh mm101) _ (by rw [emm101]; exact zW_pI (v := x98) hs99 (by decide) (zf_I_2_2 b _ _ _)) rfl ?_
  refine zr_pcn 189 rfl ?_
  obtain rfl := Option.some.inj h
  exact zr_vret F hr zd_XReader_readMesh_189 (Nat.le_of_ble_eq_true rfl) (Nat.le_of_ble_eq_true rfl) ⟨rfl, rfl, rfl⟩
def T_XReader_readMesh (sh : zSh) (mm : zMem) (o : Nat) (x0_ : Nat) : Option zMem := zoS (sh o) 7 (fun le2 => Option.bind (mm.2.2 o 7) (fun a3 => zoS (sh a3) 8 (fun le5 => Option.bind (mm.2.2 a3 0) (fun a6 => zoS (sh a6) 100 (fun le8 => if (1 : Int32) < 0 ∨ le8 ≤ (1 : Int32).toNatClampNeg then none else zoS (sh o) 7 (fun le11 => zoL ((mm.1 a6 (1 : Int32).toNatClampNeg) - 1) (fun x12 => zoX (F_XReader_number sh mm o 22 0 x12) (T_XReader_number sh mm o 22 0 x12) (fun p13 => zoS (sh x0_) 2 (fun le15 => zoL (mI (p13.2) x0_ 0 (p13.1)) (fun mm16 => zoS (sh o) 7 (fun le18 => zoX (F_XReader_need sh mm16 o 44) (T_XReader_need sh mm16 o 44) (fun p19 => zoS (sh o) 7 (fun le21 => zoX (F_XReader_numbers sh p19 o 23 384 3 (-1048576) 1048576 0) (T_XReader_numbers sh p19 o 23 384 3 (-1048576) 1048576 0) (fun p22 => zoS (sh o) 7 (fun le24 => Option.bind ((p22.2).2.2 o 2) (fun a25 => zoS (sh x0_) 2 (fun le27 => Option.bind ((p22.2).2.2 x0_ 3) (fun a28 => zoS (sh a25) 100 (fun le29 => zoS (sh a28) 100 (fun le31 => if ¬ (0 : Int32) < 0 ∧ ¬ (0 : Int32) < 0 ∧ ¬ (p22.1 : Int32) < 0 ∧ (0 : Int32).toNatClampNeg + (p22.1 : Int32).toNatClampNeg ≤ le29 ∧ (0 : Int32).toNatClampNeg + (p22.1 : Int32).toNatClampNeg ≤ le31 then zoL (mC (p22.2) a25 a28 (0 : Int32).toNatClampNeg (0 : Int32).toNatClampNeg (p22.1 : Int32).toNatClampNeg) (fun mm34 => zoL (p22.1 / 3) (fun x35 => zoS (sh x0_) 2 (fun le37 => zoL (mI mm34 x0_ 1 x35) (fun mm38 => zoS (sh o) 7 (fun le40 => zoX (F_XReader_need sh mm38 o 44) (T_XReader_need sh mm38 o 44) (fun p41 => zoS (sh o) 7 (fun le43 => zoX (F_XReader_numbers sh p41 o 24 (p22.1) (p22.1) (-65536) 65536 0) (T_XReader_numbers sh p41 o 24 (p22.1) (p22.1) (-65536) 65536 0) (fun p44 => zoS (sh o) 7 (fun le46 => Option.bind ((p44.2).2.2 o 2) (fun a47 => zoS (sh x0_) 2 (fun le49 => Option.bind ((p44.2).2.2 x0_ 4) (fun a50 => zoS (sh a47) 100 (fun le51 => zoS (sh a50) 100 (fun le53 => if ¬ (0 : Int32) < 0 ∧ ¬ (0 : Int32) < 0 ∧ ¬ (p22.1 : Int32) < 0 ∧ (0 : Int32).toNatClampNeg + (p22.1 : Int32).toNatClampNeg ≤ le51 ∧ (0 : Int32).toNatClampNeg + (p22.1 : Int32).toNatClampNeg ≤ le53 then zoL (mC (p44.2) a47 a50 (0 : Int32).toNatClampNeg (0 : Int32).toNatClampNeg (p22.1 : Int32).toNatClampNeg) (fun mm56 => zoS (sh o) 7 (fun le58 => zoX (F_XReader_need sh mm56 o 44) (T_XReader_need sh mm56 o 44) (fun p59 => zoS (sh x0_) 2 (fun le61 => zoL (2 * (p59.1 x0_ 1)) (fun x62 => zoS (sh o) 7 (fun le64 => zoX (F_XReader_numbers sh p59 o 25 x62 x62 (-131072) 131072 0) (T_XReader_numbers sh p59 o 25 x62 x62 (-131072) 131072 0) (fun p65 => zoS (sh o) 7 (fun le67 => Option.bind ((p65.2).2.2 o 2) (fun a68 => zoS (sh x0_) 2 (fun le70 => Option.bind ((p65.2).2.2 x0_ 5) (fun a71 => zoS (sh a68) 100 (fun le72 => zoS (sh a71) 100 (fun le74 => if ¬ (0 : Int32) < 0 ∧ ¬ (0 : Int32) < 0 ∧ ¬ (x62 : Int32) < 0 ∧ (0 : Int32).toNatClampNeg + (x62 : Int32).toNatClampNeg ≤ le72 ∧ (0 : Int32).toNatClampNeg + (x62 : Int32).toNatClampNeg ≤ le74 then zoL (mC (p65.2) a68 a71 (0 : Int32).toNatClampNeg (0 : Int32).toNatClampNeg (x62 : Int32).toNatClampNeg) (fun mm77 => zoS (sh o) 7 (fun le79 => zoX (F_XReader_need sh mm77 o 44) (T_XReader_need sh mm77 o 44) (fun p80 => zoS (sh x0_) 2 (fun le82 => zoS (sh o) 7 (fun le84 => zoX (F_XReader_numbers sh p80 o 26 384 3 0 ((p80.1 x0_ 1) - 1) 0) (T_XReader_numbers sh p80 o 26 384 3 0 ((p80.1 x0_ 1) - 1) 0) (fun p85 => zoS (sh o) 7 (fun le87 => Option.bind ((p85.2).2.2 o 2) (fun a88 => zoS (sh x0_) 2 (fun le90 => Option.bind ((p85.2).2.2 x0_ 6) (fun a91 => zoS (sh a88) 100 (fun le92 => zoS (sh a91) 100 (fun le94 => if ¬ (0 : Int32) < 0 ∧ ¬ (0 : Int32) < 0 ∧ ¬ (p85.1 : Int32) < 0 ∧ (0 : Int32).toNatClampNeg + (p85.1 : Int32).toNatClampNeg ≤ le92 ∧ (0 : Int32).toNatClampNeg + (p85.1 : Int32).toNatClampNeg ≤ le94 then zoL (mC (p85.2) a88 a91 (0 : Int32).toNatClampNeg (0 : Int32).toNatClampNeg (p85.1 : Int32).toNatClampNeg) (fun mm97 => zoL (p85.1 / 3) (fun x98 => zoS (sh x0_) 2 (fun le100 => zoL (mI mm97 x0_ 2 x98) (fun mm101 => none)))) else none)))))))))))) else none))))))))))))) else none)))))))))))))) else none))))))))))))))))))))
set_option maxHeartbeats 4000000 in
set_option maxRecDepth 100000 in
theorem kT_XReader_readMesh (l : Launch) (D : va_G) (tA : Nat → ClassId) (b : Nat) (sh : zSh) (n : Nat) (hl : l.stackTraces = false) {mm : zMem} {o : Nat} {x0_ : Nat} {r : zMem} (h : T_XReader_readMesh sh mm o x0_ = some r) : zMT l D tA b zy_XReader_readMesh zb_XReader_readMesh 5 none 9 166 1 6 [.ref (b + o), .ref (b + x0_)] (zW tA b sh mm) n "java/lang/IllegalArgumentException" (zW tA b sh r) (n + 1) := by
  unfold T_XReader_readMesh at h
  refine zMT_of (own := "OrreryBox$Reader") (plainFor_of_name (by decide)) rfl (Nat.le_of_ble_eq_true rfl) (fun p e s m below meth c F hno hH => ?_)
  refine zr_aload_n F zd_XReader_readMesh_0 rfl ?_
  refine zr_aload_n F zd_XReader_readMesh_1 rfl ?_
  refine zr_ldcS F 22 "material" zd_XReader_readMesh_2 (by decide +kernel) ?_
  refine zr_iconstv (v := 0) F zd_XReader_readMesh_4 (by decide) ?_
  refine zr_aload_n F zd_XReader_readMesh_5 rfl ?_
  obtain ⟨le2, hs1, h⟩ := zoS_s h
  obtain ⟨a3, ea3, h⟩ := zoB_s h
  refine zr_get F 7 7 zd_XReader_readMesh_6 (zW_o hs1 (by decide)) rfl (by decide) zw_55 rfl (by rfl) ?_
  refine zr_tor ea3 ?_
  obtain ⟨le5, hs4, h⟩ := zoS_s h
  obtain ⟨a6, ea6, h⟩ := zoB_s h
  refine zr_get F 8 0 zd_XReader_readMesh_9 (zW_o hs4 (by decide)) rfl (by decide) zw_284 rfl (by rfl) ?_
  refine zr_tor ea6 ?_
  refine zr_pcn 12 rfl ?_
  refine zr_iconstv (v := 1) F zd_XReader_readMesh_12 (by decide) ?_
  obtain ⟨le8, hs7, h⟩ := zoS_s h
  obtain ⟨hi9, h⟩ := zoI_s h
  refine zr_iald F zd_XReader_readMesh_13 (zW_a0 hs7) hi9 ?_
  refine zr_iconstv (v := 1) F zd_XReader_readMesh_14 (by decide) ?_
  refine zr_isub F zd_XReader_readMesh_15 ?_
  obtain ⟨le11, hs10, h⟩ := zoS_s h
  obtain ⟨x12, ex12, h⟩ := zoL_s h
  rw [← ex12]
  cases ep13 : F_XReader_number sh mm o 22 0 x12 with
  | none =>
    rw [ep13] at h
    dsimp only [zoX] at h
    exact zr_thrV F hno (kT_XReader_number l D tA b sh _ hl h) zd_XReader_readMesh_16 (zW_o hs10 (by decide)) rfl zs_XReader_138 rfl zq_XReader_number rfl rfl ⟨(Nat.le_of_ble_eq_true rfl), (Nat.le_of_ble_eq_true rfl)⟩ (Nat.le_of_ble_eq_true rfl) ⟨(Nat.le_of_ble_eq_true rfl), (Nat.le_of_ble_eq_true rfl)⟩ ⟨(Nat.le_of_ble_eq_true rfl), (Nat.le_of_ble_eq_true rfl)⟩
  | some p13 =>
    rw [ep13] at h
    dsimp only [zoX] at h
    refine zr_callV1 F (k_XReader_number l D tA b sh _ ep13) zd_XReader_readMesh_16 (zW_o hs10 (by decide)) rfl zs_XReader_138 rfl zq_XReader_number rfl rfl ⟨(Nat.le_of_ble_eq_true rfl), (Nat.le_of_ble_eq_true rfl)⟩ (Nat.le_of_ble_eq_true rfl) ⟨(Nat.le_of_ble_eq_true rfl), (Nat.le_of_ble_eq_true rfl)⟩ ?_
    obtain ⟨le15, hs14, h⟩ := zoS_s h
    refine zr_put F 2 0 zd_XReader_readMesh_19 (zW_o hs14 (by decide)) rfl (by decide) zw_176 rfl rfl rfl rfl (by exact (Nat.le_of_ble_eq_true rfl)) ?_
    obtain ⟨mm16, emm16, h⟩ := zoL_s h
    refine zr_norm (zW tA b sh mm16) _ (by rw [emm16]; exact zW_pI (v := (p13.1)) hs14 (by decide) (zf_I_2_0 b _ _ _)) rfl ?_
    refine zr_aload_n F zd_XReader_readMesh_22 rfl ?_
    refine zr_bipushv (v := 44) F zd_XReader_readMesh_23 (by decide) ?_
    refine zr_pcn 25 rfl ?_
    obtain ⟨le18, hs17, h⟩ := zoS_s h
    cases ep19 : F_XReader_need sh mm16 o 44 with
    | none =>
      rw [ep19] at h
      dsimp only [zoX] at h
      exact zr_thrV F hno (kT_XReader_need l D tA b sh _ hl h) zd_XReader_readMesh_25 (zW_o hs17 (by decide)) rfl zs_XReader_45 rfl zq_XReader_need rfl rfl ⟨(Nat.le_of_ble_eq_true rfl), (Nat.le_of_ble_eq_true rfl)⟩ (Nat.le_of_ble_eq_true rfl) ⟨(Nat.le_of_ble_eq_true rfl), (Nat.le_of_ble_eq_true rfl)⟩ ⟨(Nat.le_of_ble_eq_true rfl), (Nat.le_of_ble_eq_true rfl)⟩
    | some p19 =>
      rw [ep19] at h
      dsimp only [zoX] at h
      refine zr_callV0 F (k_XReader_need l D tA b sh _ ep19) zd_XReader_readMesh_25 (zW_o hs17 (by decide)) rfl zs_XReader_45 rfl zq_XReader_need rfl rfl ⟨(Nat.le_of_ble_eq_true rfl), (Nat.le_of_ble_eq_true rfl)⟩ (Nat.le_of_ble_eq_true rfl) ⟨(Nat.le_of_ble_eq_true rfl), (Nat.le_of_ble_eq_true rfl)⟩ ?_
      refine zr_aload_n F zd_XReader_readMesh_28 rfl ?_
      refine zr_ldcS F 23 "points" zd_XReader_readMesh_29 (by decide +kernel) ?_
      refine zr_sipushv (v := 384) F zd_XReader_readMesh_31 (by decide) ?_
      refine zr_iconstv (v := 3) F zd_XReader_readMesh_34 (by decide) ?_
      refine zr_ldc F zd_XReader_readMesh_35 zw_1204 ?_
      refine zr_ldc F zd_XReader_readMesh_37 zw_1205 ?_
      refine zr_iconstv (v := 0) F zd_XReader_readMesh_39 (by decide) ?_
      refine zr_pcn 40 rfl ?_
      obtain ⟨le21, hs20, h⟩ := zoS_s h
      cases ep22 : F_XReader_numbers sh p19 o 23 384 3 (-1048576) 1048576 0 with
      | none =>
        rw [ep22] at h
        dsimp only [zoX] at h
        exact zr_thrV F hno (kT_XReader_numbers l D tA b sh _ hl h) zd_XReader_readMesh_40 (zW_o hs20 (by decide)) rfl zs_XReader_160 rfl zq_XReader_numbers rfl rfl ⟨(Nat.le_of_ble_eq_true rfl), (Nat.le_of_ble_eq_true rfl)⟩ (Nat.le_of_ble_eq_true rfl) ⟨(Nat.le_of_ble_eq_true rfl), (Nat.le_of_ble_eq_true rfl)⟩ ⟨(Nat.le_of_ble_eq_true rfl), (Nat.le_of_ble_eq_true rfl)⟩
      | some p22 =>
        rw [ep22] at h
        dsimp only [zoX] at h
        refine zr_callV1 F (k_XReader_numbers l D tA b sh _ ep22) zd_XReader_readMesh_40 (zW_o hs20 (by decide)) rfl zs_XReader_160 rfl zq_XReader_numbers rfl rfl ⟨(Nat.le_of_ble_eq_true rfl), (Nat.le_of_ble_eq_true rfl)⟩ (Nat.le_of_ble_eq_true rfl) ⟨(Nat.le_of_ble_eq_true rfl), (Nat.le_of_ble_eq_true rfl)⟩ ?_
        refine zr_istore_n F zd_XReader_readMesh_43 (by decide) ?_
        refine zr_aload_n F zd_XReader_readMesh_44 rfl ?_
        obtain ⟨le24, hs23, h⟩ := zoS_s h
        obtain ⟨a25, ea25, h⟩ := zoB_s h
        refine zr_get F 7 2 zd_XReader_readMesh_45 (zW_o hs23 (by decide)) rfl (by decide) zw_50 rfl (by rfl) ?_
        refine zr_tor ea25 ?_
        refine zr_iconstv (v := 0) F zd_XReader_readMesh_48 (by decide) ?_
        refine zr_aload_n F zd_XReader_readMesh_49 rfl ?_
        obtain ⟨le27, hs26, h⟩ := zoS_s h
        obtain ⟨a28, ea28, h⟩ := zoB_s h
        refine zr_get F 2 3 zd_XReader_readMesh_50 (zW_o hs26 (by decide)) rfl (by decide) zw_183 rfl (by rfl) ?_
        refine zr_tor ea28 ?_
        refine zr_iconstv (v := 0) F zd_XReader_readMesh_53 (by decide) ?_
        refine zr_pcn 54 rfl ?_
        refine zr_iload_n F zd_XReader_readMesh_54 rfl ?_
        obtain ⟨le29, hs30, h⟩ := zoS_s h
        obtain ⟨le31, hs32, h⟩ := zoS_s h
        obtain ⟨hc33, h⟩ := zoT_s h
        obtain ⟨mm34, emm34, h⟩ := zoL_s h
        refine zr_copy F zd_XReader_readMesh_55 zw_1202 zw_724 zw_723 zw_26 (zW_a0 hs30) (zW_a0 hs32) hc33.1 hc33.2.1 hc33.2.2.1 hc33.2.2.2.1 hc33.2.2.2.2 (Nat.le_of_ble_eq_true rfl) (Nat.le_of_ble_eq_true rfl) ?_
        refine zr_norm (zW tA b sh mm34) _ (by rw [emm34]; exact zW_c hs32) rfl ?_
        refine zr_aload_n F zd_XReader_readMesh_58 rfl ?_
        refine zr_iload_n F zd_XReader_readMesh_59 rfl ?_
        refine zr_iconstv (v := 3) F zd_XReader_readMesh_60 (by decide) ?_
        refine zr_idiv F zd_XReader_readMesh_61 (by decide) ?_
        obtain ⟨x35, ex35, h⟩ := zoL_s h
        rw [← ex35]
        obtain ⟨le37, hs36, h⟩ := zoS_s h
        refine zr_put F 2 1 zd_XReader_readMesh_62 (zW_o hs36 (by decide)) rfl (by decide) zw_178 rfl rfl rfl rfl (by exact (Nat.le_of_ble_eq_true rfl)) ?_
        obtain ⟨mm38, emm38, h⟩ := zoL_s h
        refine zr_norm (zW tA b sh mm38) _ (by rw [emm38]; exact zW_pI (v := x35) hs36 (by decide) (zf_I_2_1 b _ _ _)) rfl ?_
        refine zr_aload_n F zd_XReader_readMesh_65 rfl ?_
        refine zr_pcn 66 rfl ?_
        refine zr_bipushv (v := 44) F zd_XReader_readMesh_66 (by decide) ?_
        obtain ⟨le40, hs39, h⟩ := zoS_s h
        cases ep41 : F_XReader_need sh mm38 o 44 with
        | none =>
          rw [ep41] at h
          dsimp only [zoX] at h
          exact zr_thrV F hno (kT_XReader_need l D tA b sh _ hl h) zd_XReader_readMesh_68 (zW_o hs39 (by decide)) rfl zs_XReader_45 rfl zq_XReader_need rfl rfl ⟨(Nat.le_of_ble_eq_true rfl), (Nat.le_of_ble_eq_true rfl)⟩ (Nat.le_of_ble_eq_true rfl) ⟨(Nat.le_of_ble_eq_true rfl), (Nat.le_of_ble_eq_true rfl)⟩ ⟨(Nat.le_of_ble_eq_true rfl), (Nat.le_of_ble_eq_true rfl)⟩
        | some p41 =>
          rw [ep41] at h
          dsimp only [zoX] at h
          refine zr_callV0 F (k_XReader_need l D tA b sh _ ep41) zd_XReader_readMesh_68 (zW_o hs39 (by decide)) rfl zs_XReader_45 rfl zq_XReader_need rfl rfl ⟨(Nat.le_of_ble_eq_true rfl), (Nat.le_of_ble_eq_true rfl)⟩ (Nat.le_of_ble_eq_true rfl) ⟨(Nat.le_of_ble_eq_true rfl), (Nat.le_of_ble_eq_true rfl)⟩ ?_
          refine zr_aload_n F zd_XReader_readMesh_71 rfl ?_
          refine zr_ldcS F 24 "normals" zd_XReader_readMesh_72 (by decide +kernel) ?_
          refine zr_iload_n F zd_XReader_readMesh_74 rfl ?_
          refine zr_iload_n F zd_XReader_readMesh_75 rfl ?_
          refine zr_ldc F zd_XReader_readMesh_76 zw_1216 ?_
          refine zr_ldc F zd_XReader_readMesh_78 zw_1217 ?_
          refine zr_pcn 80 rfl ?_
          refine zr_iconstv (v := 0) F zd_XReader_readMesh_80 (by decide) ?_
          obtain ⟨le43, hs42, h⟩ := zoS_s h
          cases ep44 : F_XReader_numbers sh p41 o 24 (p22.1) (p22.1) (-65536) 65536 0 with
          | none =>
            rw [ep44] at h
            dsimp only [zoX] at h
            exact zr_thrV F hno (kT_XReader_numbers l D tA b sh _ hl h) zd_XReader_readMesh_81 (zW_o hs42 (by decide)) rfl zs_XReader_160 rfl zq_XReader_numbers rfl rfl ⟨(Nat.le_of_ble_eq_true rfl), (Nat.le_of_ble_eq_true rfl)⟩ (Nat.le_of_ble_eq_true rfl) ⟨(Nat.le_of_ble_eq_true rfl), (Nat.le_of_ble_eq_true rfl)⟩ ⟨(Nat.le_of_ble_eq_true rfl), (Nat.le_of_ble_eq_true rfl)⟩
          | some p44 =>
            rw [ep44] at h
            dsimp only [zoX] at h
            refine zr_callV1 F (k_XReader_numbers l D tA b sh _ ep44) zd_XReader_readMesh_81 (zW_o hs42 (by decide)) rfl zs_XReader_160 rfl zq_XReader_numbers rfl rfl ⟨(Nat.le_of_ble_eq_true rfl), (Nat.le_of_ble_eq_true rfl)⟩ (Nat.le_of_ble_eq_true rfl) ⟨(Nat.le_of_ble_eq_true rfl), (Nat.le_of_ble_eq_true rfl)⟩ ?_
            refine zr_pop F zd_XReader_readMesh_84 rfl ?_
            refine zr_aload_n F zd_XReader_readMesh_85 rfl ?_
            obtain ⟨le46, hs45, h⟩ := zoS_s h
            obtain ⟨a47, ea47, h⟩ := zoB_s h
            refine zr_get F 7 2 zd_XReader_readMesh_86 (zW_o hs45 (by decide)) rfl (by decide) zw_50 rfl (by rfl) ?_
            refine zr_tor ea47 ?_
            refine zr_iconstv (v := 0) F zd_XReader_readMesh_89 (by decide) ?_
            refine zr_aload_n F zd_XReader_readMesh_90 rfl ?_
            obtain ⟨le49, hs48, h⟩ := zoS_s h
            obtain ⟨a50, ea50, h⟩ := zoB_s h
            refine zr_get F 2 4 zd_XReader_readMesh_91 (zW_o hs48 (by decide)) rfl (by decide) zw_186 rfl (by rfl) ?_
            refine zr_tor ea50 ?_
            refine zr_pcn 94 rfl ?_
            refine zr_iconstv (v := 0) F zd_XReader_readMesh_94 (by decide) ?_
            refine zr_iload_n F zd_XReader_readMesh_95 rfl ?_
            obtain ⟨le51, hs52, h⟩ := zoS_s h
            obtain ⟨le53, hs54, h⟩ := zoS_s h
            obtain ⟨hc55, h⟩ := zoT_s h
            obtain ⟨mm56, emm56, h⟩ := zoL_s h
            refine zr_copy F zd_XReader_readMesh_96 zw_1202 zw_724 zw_723 zw_26 (zW_a0 hs52) (zW_a0 hs54) hc55.1 hc55.2.1 hc55.2.2.1 hc55.2.2.2.1 hc55.2.2.2.2 (Nat.le_of_ble_eq_true rfl) (Nat.le_of_ble_eq_true rfl) ?_
            refine zr_norm (zW tA b sh mm56) _ (by rw [emm56]; exact zW_c hs54) rfl ?_
            refine zr_aload_n F zd_XReader_readMesh_99 rfl ?_
            refine zr_bipushv (v := 44) F zd_XReader_readMesh_100 (by decide) ?_
            obtain ⟨le58, hs57, h⟩ := zoS_s h
            cases ep59 : F_XReader_need sh mm56 o 44 with
            | none =>
              rw [ep59] at h
              dsimp only [zoX] at h
              exact zr_thrV F hno (kT_XReader_need l D tA b sh _ hl h) zd_XReader_readMesh_102 (zW_o hs57 (by decide)) rfl zs_XReader_45 rfl zq_XReader_need rfl rfl ⟨(Nat.le_of_ble_eq_true rfl), (Nat.le_of_ble_eq_true rfl)⟩ (Nat.le_of_ble_eq_true rfl) ⟨(Nat.le_of_ble_eq_true rfl), (Nat.le_of_ble_eq_true rfl)⟩ ⟨(Nat.le_of_ble_eq_true rfl), (Nat.le_of_ble_eq_true rfl)⟩
            | some p59 =>
              rw [ep59] at h
              dsimp only [zoX] at h
              refine zr_callV0 F (k_XReader_need l D tA b sh _ ep59) zd_XReader_readMesh_102 (zW_o hs57 (by decide)) rfl zs_XReader_45 rfl zq_XReader_need rfl rfl ⟨(Nat.le_of_ble_eq_true rfl), (Nat.le_of_ble_eq_true rfl)⟩ (Nat.le_of_ble_eq_true rfl) ⟨(Nat.le_of_ble_eq_true rfl), (Nat.le_of_ble_eq_true rfl)⟩ ?_
              refine zr_iconstv (v := 2) F zd_XReader_readMesh_105 (by decide) ?_
              refine zr_aload_n F zd_XReader_readMesh_106 rfl ?_
              refine zr_pcn 107 rfl ?_
              obtain ⟨le61, hs60, h⟩ := zoS_s h
              refine zr_get F 2 1 zd_XReader_readMesh_107 (zW_o hs60 (by decide)) rfl (by decide) zw_178 rfl (by rfl) ?_
              refine zr_imul F zd_XReader_readMesh_110 ?_
              obtain ⟨x62, ex62, h⟩ := zoL_s h
              rw [← ex62]
              refine zr_istore_n F zd_XReader_readMesh_111 (by decide) ?_
              refine zr_aload_n F zd_XReader_readMesh_112 rfl ?_
              refine zr_ldcS F 25 "places" zd_XReader_readMesh_113 (by decide +kernel) ?_
              refine zr_iload_n F zd_XReader_readMesh_115 rfl ?_
              refine zr_iload_n F zd_XReader_readMesh_116 rfl ?_
              refine zr_ldc F zd_XReader_readMesh_117 zw_1258 ?_
              refine zr_pcn 119 rfl ?_
              refine zr_ldc F zd_XReader_readMesh_119 zw_1259 ?_
              refine zr_iconstv (v := 0) F zd_XReader_readMesh_121 (by decide) ?_
              obtain ⟨le64, hs63, h⟩ := zoS_s h
              cases ep65 : F_XReader_numbers sh p59 o 25 x62 x62 (-131072) 131072 0 with
              | none =>
                rw [ep65] at h
                dsimp only [zoX] at h
                exact zr_thrV F hno (kT_XReader_numbers l D tA b sh _ hl h) zd_XReader_readMesh_122 (zW_o hs63 (by decide)) rfl zs_XReader_160 rfl zq_XReader_numbers rfl rfl ⟨(Nat.le_of_ble_eq_true rfl), (Nat.le_of_ble_eq_true rfl)⟩ (Nat.le_of_ble_eq_true rfl) ⟨(Nat.le_of_ble_eq_true rfl), (Nat.le_of_ble_eq_true rfl)⟩ ⟨(Nat.le_of_ble_eq_true rfl), (Nat.le_of_ble_eq_true rfl)⟩
              | some p65 =>
                rw [ep65] at h
                dsimp only [zoX] at h
                refine zr_callV1 F (k_XReader_numbers l D tA b sh _ ep65) zd_XReader_readMesh_122 (zW_o hs63 (by decide)) rfl zs_XReader_160 rfl zq_XReader_numbers rfl rfl ⟨(Nat.le_of_ble_eq_true rfl), (Nat.le_of_ble_eq_true rfl)⟩ (Nat.le_of_ble_eq_true rfl) ⟨(Nat.le_of_ble_eq_true rfl), (Nat.le_of_ble_eq_true rfl)⟩ ?_
                refine zr_pop F zd_XReader_readMesh_125 rfl ?_
                refine zr_aload_n F zd_XReader_readMesh_126 rfl ?_
                obtain ⟨le67, hs66, h⟩ := zoS_s h
                obtain ⟨a68, ea68, h⟩ := zoB_s h
                refine zr_get F 7 2 zd_XReader_readMesh_127 (zW_o hs66 (by decide)) rfl (by decide) zw_50 rfl (by rfl) ?_
                refine zr_tor ea68 ?_
                refine zr_iconstv (v := 0) F zd_XReader_readMesh_130 (by decide) ?_
                refine zr_aload_n F zd_XReader_readMesh_131 rfl ?_
                refine zr_pcn 132 rfl ?_
                obtain ⟨le70, hs69, h⟩ := zoS_s h
                obtain ⟨a71, ea71, h⟩ := zoB_s h
                refine zr_get F 2 5 zd_XReader_readMesh_132 (zW_o hs69 (by decide)) rfl (by decide) zw_189 rfl (by rfl) ?_
                refine zr_tor ea71 ?_
                refine zr_iconstv (v := 0) F zd_XReader_readMesh_135 (by decide) ?_
                refine zr_iload_n F zd_XReader_readMesh_136 rfl ?_
                obtain ⟨le72, hs73, h⟩ := zoS_s h
                obtain ⟨le74, hs75, h⟩ := zoS_s h
                obtain ⟨hc76, h⟩ := zoT_s h
                obtain ⟨mm77, emm77, h⟩ := zoL_s h
                refine zr_copy F zd_XReader_readMesh_137 zw_1202 zw_724 zw_723 zw_26 (zW_a0 hs73) (zW_a0 hs75) hc76.1 hc76.2.1 hc76.2.2.1 hc76.2.2.2.1 hc76.2.2.2.2 (Nat.le_of_ble_eq_true rfl) (Nat.le_of_ble_eq_true rfl) ?_
                refine zr_norm (zW tA b sh mm77) _ (by rw [emm77]; exact zW_c hs75) rfl ?_
                refine zr_aload_n F zd_XReader_readMesh_140 rfl ?_
                refine zr_bipushv (v := 44) F zd_XReader_readMesh_141 (by decide) ?_
                obtain ⟨le79, hs78, h⟩ := zoS_s h
                cases ep80 : F_XReader_need sh mm77 o 44 with
                | none =>
                  rw [ep80] at h
                  dsimp only [zoX] at h
                  exact zr_thrV F hno (kT_XReader_need l D tA b sh _ hl h) zd_XReader_readMesh_143 (zW_o hs78 (by decide)) rfl zs_XReader_45 rfl zq_XReader_need rfl rfl ⟨(Nat.le_of_ble_eq_true rfl), (Nat.le_of_ble_eq_true rfl)⟩ (Nat.le_of_ble_eq_true rfl) ⟨(Nat.le_of_ble_eq_true rfl), (Nat.le_of_ble_eq_true rfl)⟩ ⟨(Nat.le_of_ble_eq_true rfl), (Nat.le_of_ble_eq_true rfl)⟩
                | some p80 =>
                  rw [ep80] at h
                  dsimp only [zoX] at h
                  refine zr_callV0 F (k_XReader_need l D tA b sh _ ep80) zd_XReader_readMesh_143 (zW_o hs78 (by decide)) rfl zs_XReader_45 rfl zq_XReader_need rfl rfl ⟨(Nat.le_of_ble_eq_true rfl), (Nat.le_of_ble_eq_true rfl)⟩ (Nat.le_of_ble_eq_true rfl) ⟨(Nat.le_of_ble_eq_true rfl), (Nat.le_of_ble_eq_true rfl)⟩ ?_
                  refine zr_aload_n F zd_XReader_readMesh_146 rfl ?_
                  refine zr_pcn 147 rfl ?_
                  refine zr_ldcS F 26 "faces" zd_XReader_readMesh_147 (by decide +kernel) ?_
                  refine zr_sipushv (v := 384) F zd_XReader_readMesh_149 (by decide) ?_
                  refine zr_iconstv (v := 3) F zd_XReader_readMesh_152 (by decide) ?_
                  refine zr_iconstv (v := 0) F zd_XReader_readMesh_153 (by decide) ?_
                  refine zr_aload_n F zd_XReader_readMesh_154 rfl ?_
                  obtain ⟨le82, hs81, h⟩ := zoS_s h
                  refine zr_get F 2 1 zd_XReader_readMesh_155 (zW_o hs81 (by decide)) rfl (by decide) zw_178 rfl (by rfl) ?_
                  refine zr_iconstv (v := 1) F zd_XReader_readMesh_158 (by decide) ?_
                  refine zr_isub F zd_XReader_readMesh_159 ?_
                  refine zr_pcn 160 rfl ?_
                  refine zr_iconstv (v := 0) F zd_XReader_readMesh_160 (by decide) ?_
                  obtain ⟨le84, hs83, h⟩ := zoS_s h
                  cases ep85 : F_XReader_numbers sh p80 o 26 384 3 0 ((p80.1 x0_ 1) - 1) 0 with
                  | none =>
                    rw [ep85] at h
                    dsimp only [zoX] at h
                    exact zr_thrV F hno (kT_XReader_numbers l D tA b sh _ hl h) zd_XReader_readMesh_161 (zW_o hs83 (by decide)) rfl zs_XReader_160 rfl zq_XReader_numbers rfl rfl ⟨(Nat.le_of_ble_eq_true rfl), (Nat.le_of_ble_eq_true rfl)⟩ (Nat.le_of_ble_eq_true rfl) ⟨(Nat.le_of_ble_eq_true rfl), (Nat.le_of_ble_eq_true rfl)⟩ ⟨(Nat.le_of_ble_eq_true rfl), (Nat.le_of_ble_eq_true rfl)⟩
                  | some p85 =>
                    rw [ep85] at h
                    dsimp only [zoX] at h
                    refine zr_callV1 F (k_XReader_numbers l D tA b sh _ ep85) zd_XReader_readMesh_161 (zW_o hs83 (by decide)) rfl zs_XReader_160 rfl zq_XReader_numbers rfl rfl ⟨(Nat.le_of_ble_eq_true rfl), (Nat.le_of_ble_eq_true rfl)⟩ (Nat.le_of_ble_eq_true rfl) ⟨(Nat.le_of_ble_eq_true rfl), (Nat.le_of_ble_eq_true rfl)⟩ ?_
                    refine zr_istore F zd_XReader_readMesh_164 (by decide) ?_
                    refine zr_aload_n F zd_XReader_readMesh_166 rfl ?_
                    obtain ⟨le87, hs86, h⟩ := zoS_s h
                    obtain ⟨a88, ea88, h⟩ := zoB_s h
                    refine zr_get F 7 2 zd_XReader_readMesh_167 (zW_o hs86 (by decide)) rfl (by decide) zw_50 rfl (by rfl) ?_
                    refine zr_tor ea88 ?_
                    refine zr_iconstv (v := 0) F zd_XReader_readMesh_170 (by decide) ?_
                    refine zr_aload_n F zd_XReader_readMesh_171 rfl ?_
                    obtain ⟨le90, hs89, h⟩ := zoS_s h
                    obtain ⟨a91, ea91, h⟩ := zoB_s h
                    refine zr_get F 2 6 zd_XReader_readMesh_172 (zW_o hs89 (by decide)) rfl (by decide) zw_192 rfl (by rfl) ?_
                    refine zr_tor ea91 ?_
                    refine zr_pcn 175 rfl ?_
                    refine zr_iconstv (v := 0) F zd_XReader_readMesh_175 (by decide) ?_
                    refine zr_iload F zd_XReader_readMesh_176 rfl ?_
                    obtain ⟨le92, hs93, h⟩ := zoS_s h
                    obtain ⟨le94, hs95, h⟩ := zoS_s h
                    obtain ⟨hc96, h⟩ := zoT_s h
                    obtain ⟨mm97, emm97, h⟩ := zoL_s h
                    refine zr_copy F zd_XReader_readMesh_178 zw_1202 zw_724 zw_723 zw_26 (zW_a0 hs93) (zW_a0 hs95) hc96.1 hc96.2.1 hc96.2.2.1 hc96.2.2.2.1 hc96.2.2.2.2 (Nat.le_of_ble_eq_true rfl) (Nat.le_of_ble_eq_true rfl) ?_
                    refine zr_norm (zW tA b sh mm97) _ (by rw [emm97]; exact zW_c hs95) rfl ?_
                    refine zr_aload_n F zd_XReader_readMesh_181 rfl ?_
                    refine zr_iload F zd_XReader_readMesh_182 rfl ?_
                    refine zr_iconstv (v := 3) F zd_XReader_readMesh_184 (by decide) ?_
                    refine zr_idiv F zd_XReader_readMesh_185 (by decide) ?_
                    obtain ⟨x98, ex98, h⟩ := zoL_s h
                    rw [← ex98]
                    obtain ⟨le100, hs99, h⟩ := zoS_s h
                    refine zr_put F 2 2 zd_XReader_readMesh_186 (zW_o hs99 (by decide)) rfl (by decide) zw_180 rfl rfl rfl rfl (by exact (Nat.le_of_ble_eq_true rfl)) ?_
                    obtain ⟨mm101, emm101, h⟩ := zoL_s h
                    refine zr_norm (zW tA b sh mm101) _ (by rw [emm101]; exact zW_pI (v := x98) hs99 (by decide) (zf_I_2_2 b _ _ _)) rfl ?_
                    refine zr_pcn 189 rfl ?_
                    cases h
abbrev zb_XReader_readNode : ByteArray := prog_8_method_8_code
def zy_XReader_readNode : MethodName := ⟨"OrreryBox$Reader", "readNode", "(LOrreryBox$Node;I)V"⟩
theorem zc_XReader_readNode : Cond.code zy_XReader_readNode zb_XReader_readNode 3 none ∈ gw := gw_t 1264 (by decide +kernel) rfl
theorem zq_XReader_readNode : zy_XReader_readNode.cls ≠ "java/lang/invoke/MethodHandle" ∧ zy_XReader_readNode.cls ≠ "java/lang/invoke/VarHandle" ∧ (parseMethodDescriptor zy_XReader_readNode.desc).map (fun d => d.parameters.length) = some 2 := by decide +kernel
theorem zd_XReader_readNode_0 : decode zb_XReader_readNode 0 = .ok (.aload_n 1, 1) := by decide +kernel
theorem zd_XReader_readNode_1 : decode zb_XReader_readNode 1 = .ok (.iconst 0, 1) := by decide +kernel
theorem zd_XReader_readNode_2 : decode zb_XReader_readNode 2 = .ok (.putfield 213, 3) := by decide +kernel
theorem zd_XReader_readNode_5 : decode zb_XReader_readNode 5 = .ok (.aload_n 1, 1) := by decide +kernel
theorem zd_XReader_readNode_6 : decode zb_XReader_readNode 6 = .ok (.aload_n 0, 1) := by decide +kernel
theorem zd_XReader_readNode_7 : decode zb_XReader_readNode 7 = .ok (.ldc 218, 2) := by decide +kernel
theorem zd_XReader_readNode_9 : decode zb_XReader_readNode 9 = .ok (.iconst (-1), 1) := by decide +kernel
theorem zd_XReader_readNode_10 : decode zb_XReader_readNode 10 = .ok (.iload_n 2, 1) := by decide +kernel
theorem zd_XReader_readNode_11 : decode zb_XReader_readNode 11 = .ok (.iconst 1, 1) := by decide +kernel
theorem zd_XReader_readNode_12 : decode zb_XReader_readNode 12 = .ok (.isub, 1) := by decide +kernel
theorem zd_XReader_readNode_13 : decode zb_XReader_readNode 13 = .ok (.invokevirtual 138, 3) := by decide +kernel
theorem zd_XReader_readNode_16 : decode zb_XReader_readNode 16 = .ok (.putfield 220, 3) := by decide +kernel
theorem zd_XReader_readNode_19 : decode zb_XReader_readNode 19 = .ok (.aload_n 0, 1) := by decide +kernel
theorem zd_XReader_readNode_20 : decode zb_XReader_readNode 20 = .ok (.bipush 44, 2) := by decide +kernel
theorem zd_XReader_readNode_22 : decode zb_XReader_readNode 22 = .ok (.invokevirtual 45, 3) := by decide +kernel
theorem zd_XReader_readNode_25 : decode zb_XReader_readNode 25 = .ok (.aload_n 1, 1) := by decide +kernel
theorem zd_XReader_readNode_26 : decode zb_XReader_readNode 26 = .ok (.aload_n 0, 1) := by decide +kernel
theorem zd_XReader_readNode_27 : decode zb_XReader_readNode 27 = .ok (.ldc 222, 2) := by decide +kernel
theorem zd_XReader_readNode_29 : decode zb_XReader_readNode 29 = .ok (.iconst (-1), 1) := by decide +kernel
theorem zd_XReader_readNode_30 : decode zb_XReader_readNode 30 = .ok (.aload_n 0, 1) := by decide +kernel
theorem zd_XReader_readNode_31 : decode zb_XReader_readNode 31 = .ok (.getfield 23, 3) := by decide +kernel
theorem zd_XReader_readNode_34 : decode zb_XReader_readNode 34 = .ok (.getfield 133, 3) := by decide +kernel
theorem zd_XReader_readNode_37 : decode zb_XReader_readNode 37 = .ok (.iconst 2, 1) := by decide +kernel
theorem zd_XReader_readNode_38 : decode zb_XReader_readNode 38 = .ok (.iaload, 1) := by decide +kernel
theorem zd_XReader_readNode_39 : decode zb_XReader_readNode 39 = .ok (.iconst 1, 1) := by decide +kernel
theorem zd_XReader_readNode_40 : decode zb_XReader_readNode 40 = .ok (.isub, 1) := by decide +kernel
theorem zd_XReader_readNode_41 : decode zb_XReader_readNode 41 = .ok (.invokevirtual 138, 3) := by decide +kernel
theorem zd_XReader_readNode_44 : decode zb_XReader_readNode 44 = .ok (.putfield 224, 3) := by decide +kernel
theorem zd_XReader_readNode_47 : decode zb_XReader_readNode 47 = .ok (.aload_n 0, 1) := by decide +kernel
theorem zd_XReader_readNode_48 : decode zb_XReader_readNode 48 = .ok (.bipush 44, 2) := by decide +kernel
theorem zd_XReader_readNode_50 : decode zb_XReader_readNode 50 = .ok (.invokevirtual 45, 3) := by decide +kernel
theorem zd_XReader_readNode_53 : decode zb_XReader_readNode 53 = .ok (.aload_n 0, 1) := by decide +kernel
theorem zd_XReader_readNode_54 : decode zb_XReader_readNode 54 = .ok (.ldc 226, 2) := by decide +kernel
theorem zd_XReader_readNode_56 : decode zb_XReader_readNode 56 = .ok (.iconst 3, 1) := by decide +kernel
theorem zd_XReader_readNode_57 : decode zb_XReader_readNode 57 = .ok (.iconst 3, 1) := by decide +kernel
theorem zd_XReader_readNode_58 : decode zb_XReader_readNode 58 = .ok (.ldc 228, 2) := by decide +kernel
theorem zd_XReader_readNode_60 : decode zb_XReader_readNode 60 = .ok (.ldc 229, 2) := by decide +kernel
theorem zd_XReader_readNode_62 : decode zb_XReader_readNode 62 = .ok (.iconst 0, 1) := by decide +kernel
theorem zd_XReader_readNode_63 : decode zb_XReader_readNode 63 = .ok (.invokevirtual 160, 3) := by decide +kernel
theorem zd_XReader_readNode_66 : decode zb_XReader_readNode 66 = .ok (.pop, 1) := by decide +kernel
theorem zd_XReader_readNode_67 : decode zb_XReader_readNode 67 = .ok (.aload_n 0, 1) := by decide +kernel
theorem zd_XReader_readNode_68 : decode zb_XReader_readNode 68 = .ok (.getfield 9, 3) := by decide +kernel
theorem zd_XReader_readNode_71 : decode zb_XReader_readNode 71 = .ok (.iconst 0, 1) := by decide +kernel
theorem zd_XReader_readNode_72 : decode zb_XReader_readNode 72 = .ok (.aload_n 1, 1) := by decide +kernel
theorem zd_XReader_readNode_73 : decode zb_XReader_readNode 73 = .ok (.getfield 230, 3) := by decide +kernel
theorem zd_XReader_readNode_76 : decode zb_XReader_readNode 76 = .ok (.iconst 0, 1) := by decide +kernel
theorem zd_XReader_readNode_77 : decode zb_XReader_readNode 77 = .ok (.iconst 3, 1) := by decide +kernel
theorem zd_XReader_readNode_78 : decode zb_XReader_readNode 78 = .ok (.invokestatic 169, 3) := by decide +kernel
theorem zd_XReader_readNode_81 : decode zb_XReader_readNode 81 = .ok (.aload_n 0, 1) := by decide +kernel
theorem zd_XReader_readNode_82 : decode zb_XReader_readNode 82 = .ok (.bipush 44, 2) := by decide +kernel
theorem zd_XReader_readNode_84 : decode zb_XReader_readNode 84 = .ok (.invokevirtual 45, 3) := by decide +kernel
theorem zd_XReader_readNode_87 : decode zb_XReader_readNode 87 = .ok (.aload_n 0, 1) := by decide +kernel
theorem zd_XReader_readNode_88 : decode zb_XReader_readNode 88 = .ok (.ldc 232, 2) := by decide +kernel
theorem zd_XReader_readNode_90 : decode zb_XReader_readNode 90 = .ok (.iconst 3, 1) := by decide +kernel
theorem zd_XReader_readNode_91 : decode zb_XReader_readNode 91 = .ok (.iconst 3, 1) := by decide +kernel
theorem zd_XReader_readNode_92 : decode zb_XReader_readNode 92 = .ok (.ldc 187, 2) := by decide +kernel
theorem zd_XReader_readNode_94 : decode zb_XReader_readNode 94 = .ok (.ldc 188, 2) := by decide +kernel
theorem zd_XReader_readNode_96 : decode zb_XReader_readNode 96 = .ok (.iconst 0, 1) := by decide +kernel
theorem zd_XReader_readNode_97 : decode zb_XReader_readNode 97 = .ok (.invokevirtual 160, 3) := by decide +kernel
theorem zd_XReader_readNode_100 : decode zb_XReader_readNode 100 = .ok (.pop, 1) := by decide +kernel
theorem zd_XReader_readNode_101 : decode zb_XReader_readNode 101 = .ok (.aload_n 0, 1) := by decide +kernel
theorem zd_XReader_readNode_102 : decode zb_XReader_readNode 102 = .ok (.getfield 9, 3) := by decide +kernel
theorem zd_XReader_readNode_105 : decode zb_XReader_readNode 105 = .ok (.iconst 0, 1) := by decide +kernel
theorem zd_XReader_readNode_106 : decode zb_XReader_readNode 106 = .ok (.aload_n 1, 1) := by decide +kernel
theorem zd_XReader_readNode_107 : decode zb_XReader_readNode 107 = .ok (.getfield 230, 3) := by decide +kernel
theorem zd_XReader_readNode_110 : decode zb_XReader_readNode 110 = .ok (.iconst 3, 1) := by decide +kernel
theorem zd_XReader_readNode_111 : decode zb_XReader_readNode 111 = .ok (.iconst 3, 1) := by decide +kernel
theorem zd_XReader_readNode_112 : decode zb_XReader_readNode 112 = .ok (.invokestatic 169, 3) := by decide +kernel
theorem zd_XReader_readNode_115 : decode zb_XReader_readNode 115 = .ok (.aload_n 0, 1) := by decide +kernel
theorem zd_XReader_readNode_116 : decode zb_XReader_readNode 116 = .ok (.bipush 44, 2) := by decide +kernel
theorem zd_XReader_readNode_118 : decode zb_XReader_readNode 118 = .ok (.invokevirtual 45, 3) := by decide +kernel
theorem zd_XReader_readNode_121 : decode zb_XReader_readNode 121 = .ok (.aload_n 0, 1) := by decide +kernel
theorem zd_XReader_readNode_122 : decode zb_XReader_readNode 122 = .ok (.ldc 234, 2) := by decide +kernel
theorem zd_XReader_readNode_124 : decode zb_XReader_readNode 124 = .ok (.iconst 3, 1) := by decide +kernel
theorem zd_XReader_readNode_125 : decode zb_XReader_readNode 125 = .ok (.iconst 3, 1) := by decide +kernel
theorem zd_XReader_readNode_126 : decode zb_XReader_readNode 126 = .ok (.ldc 187, 2) := by decide +kernel
theorem zd_XReader_readNode_128 : decode zb_XReader_readNode 128 = .ok (.ldc 188, 2) := by decide +kernel
theorem zd_XReader_readNode_130 : decode zb_XReader_readNode 130 = .ok (.iconst 0, 1) := by decide +kernel
theorem zd_XReader_readNode_131 : decode zb_XReader_readNode 131 = .ok (.invokevirtual 160, 3) := by decide +kernel
theorem zd_XReader_readNode_134 : decode zb_XReader_readNode 134 = .ok (.pop, 1) := by decide +kernel
theorem zd_XReader_readNode_135 : decode zb_XReader_readNode 135 = .ok (.aload_n 0, 1) := by decide +kernel
theorem zd_XReader_readNode_136 : decode zb_XReader_readNode 136 = .ok (.getfield 9, 3) := by decide +kernel
theorem zd_XReader_readNode_139 : decode zb_XReader_readNode 139 = .ok (.iconst 0, 1) := by decide +kernel
theorem zd_XReader_readNode_140 : decode zb_XReader_readNode 140 = .ok (.aload_n 1, 1) := by decide +kernel
theorem zd_XReader_readNode_141 : decode zb_XReader_readNode 141 = .ok (.getfield 230, 3) := by decide +kernel
theorem zd_XReader_readNode_144 : decode zb_XReader_readNode 144 = .ok (.bipush 6, 2) := by decide +kernel
theorem zd_XReader_readNode_146 : decode zb_XReader_readNode 146 = .ok (.iconst 3, 1) := by decide +kernel
theorem zd_XReader_readNode_147 : decode zb_XReader_readNode 147 = .ok (.invokestatic 169, 3) := by decide +kernel
theorem zd_XReader_readNode_150 : decode zb_XReader_readNode 150 = .ok (.return_, 1) := by decide +kernel
theorem zw_221 : (Jvm.Cond.fieldLink "OrreryBox$Reader" (213 : Nat) "OrreryBox$Node" "hidden" "Z") ∈ gw := gw_t 221 (by decide +kernel) rfl
theorem zw_215 : (Jvm.Cond.fieldLink "OrreryBox$Reader" (220 : Nat) "OrreryBox$Node" "parent" "I") ∈ gw := gw_t 215 (by decide +kernel) rfl
theorem zw_219 : (Jvm.Cond.fieldLink "OrreryBox$Reader" (224 : Nat) "OrreryBox$Node" "mesh" "I") ∈ gw := gw_t 219 (by decide +kernel) rfl
theorem zf_I_3_1 (b : Nat) (m : zMem) (k : Nat) (v : Int32) : (zfl b 3 m k).set 1 (.int v) = zfl b 3 (mI m k 1 v) k := by simp [zfl, mI, upd, vp_updL]
theorem zw_1185 : (Jvm.Cond.constant "OrreryBox$Reader" (228 : Nat) (-4194304 : Int32)) ∈ gw := gw_t 1185 (by decide +kernel) rfl
theorem zw_1186 : (Jvm.Cond.constant "OrreryBox$Reader" (229 : Nat) (4194304 : Int32)) ∈ gw := gw_t 1186 (by decide +kernel) rfl
theorem zw_228 : (Jvm.Cond.fieldLink "OrreryBox$Reader" (230 : Nat) "OrreryBox$Node" "numbers" "[I") ∈ gw := gw_t 228 (by decide +kernel) rfl
def F_XReader_readNode (sh : zSh) (mm : zMem) (o : Nat) (x0_ : Nat) (x1_ : Int32) : Option zMem := zoS (sh x0_) 3 (fun le2 => zoL (mI mm x0_ 2 0) (fun mm3 => zoS (sh o) 7 (fun le5 => Option.bind (F_XReader_number sh mm3 o 27 (-1) (x1_ - 1)) (fun p6 => zoS (sh x0_) 3 (fun le8 => zoL (mI (p6.2) x0_ 0 (p6.1)) (fun mm9 => zoS (sh o) 7 (fun le11 => Option.bind (F_XReader_need sh mm9 o 44) (fun p12 => zoS (sh o) 7 (fun le14 => Option.bind (p12.2.2 o 7) (fun a15 => zoS (sh a15) 8 (fun le17 => Option.bind (p12.2.2 a15 0) (fun a18 => zoS (sh a18) 100 (fun le20 => if (2 : Int32) < 0 ∨ le20 ≤ (2 : Int32).toNatClampNeg then none else zoS (sh o) 7 (fun le23 => zoL ((p12.1 a18 (2 : Int32).toNatClampNeg) - 1) (fun x24 => Option.bind (F_XReader_number sh p12 o 28 (-1) x24) (fun p25 => zoS (sh x0_) 3 (fun le27 => zoL (mI (p25.2) x0_ 1 (p25.1)) (fun mm28 => zoS (sh o) 7 (fun le30 => Option.bind (F_XReader_need sh mm28 o 44) (fun p31 => zoS (sh o) 7 (fun le33 => Option.bind (F_XReader_numbers sh p31 o 10 3 3 (-4194304) 4194304 0) (fun p34 => zoS (sh o) 7 (fun le36 => Option.bind ((p34.2).2.2 o 2) (fun a37 => zoS (sh x0_) 3 (fun le39 => Option.bind ((p34.2).2.2 x0_ 4) (fun a40 => zoS (sh a37) 100 (fun le41 => zoS (sh a40) 100 (fun le43 => if ¬ (0 : Int32) < 0 ∧ ¬ (0 : Int32) < 0 ∧ ¬ (3 : Int32) < 0 ∧ (0 : Int32).toNatClampNeg + (3 : Int32).toNatClampNeg ≤ le41 ∧ (0 : Int32).toNatClampNeg + (3 : Int32).toNatClampNeg ≤ le43 then zoL (mC (p34.2) a37 a40 (0 : Int32).toNatClampNeg (0 : Int32).toNatClampNeg (3 : Int32).toNatClampNeg) (fun mm46 => zoS (sh o) 7 (fun le48 => Option.bind (F_XReader_need sh mm46 o 44) (fun p49 => zoS (sh o) 7 (fun le51 => Option.bind (F_XReader_numbers sh p49 o 11 3 3 (-1048576) 1048576 0) (fun p52 => zoS (sh o) 7 (fun le54 => Option.bind ((p52.2).2.2 o 2) (fun a55 => zoS (sh x0_) 3 (fun le57 => Option.bind ((p52.2).2.2 x0_ 4) (fun a58 => zoS (sh a55) 100 (fun le59 => zoS (sh a58) 100 (fun le61 => if ¬ (0 : Int32) < 0 ∧ ¬ (3 : Int32) < 0 ∧ ¬ (3 : Int32) < 0 ∧ (0 : Int32).toNatClampNeg + (3 : Int32).toNatClampNeg ≤ le59 ∧ (3 : Int32).toNatClampNeg + (3 : Int32).toNatClampNeg ≤ le61 then zoL (mC (p52.2) a55 a58 (0 : Int32).toNatClampNeg (3 : Int32).toNatClampNeg (3 : Int32).toNatClampNeg) (fun mm64 => zoS (sh o) 7 (fun le66 => Option.bind (F_XReader_need sh mm64 o 44) (fun p67 => zoS (sh o) 7 (fun le69 => Option.bind (F_XReader_numbers sh p67 o 29 3 3 (-1048576) 1048576 0) (fun p70 => zoS (sh o) 7 (fun le72 => Option.bind ((p70.2).2.2 o 2) (fun a73 => zoS (sh x0_) 3 (fun le75 => Option.bind ((p70.2).2.2 x0_ 4) (fun a76 => zoS (sh a73) 100 (fun le77 => zoS (sh a76) 100 (fun le79 => if ¬ (0 : Int32) < 0 ∧ ¬ (6 : Int32) < 0 ∧ ¬ (3 : Int32) < 0 ∧ (0 : Int32).toNatClampNeg + (3 : Int32).toNatClampNeg ≤ le77 ∧ (6 : Int32).toNatClampNeg + (3 : Int32).toNatClampNeg ≤ le79 then zoL (mC (p70.2) a73 a76 (0 : Int32).toNatClampNeg (6 : Int32).toNatClampNeg (3 : Int32).toNatClampNeg) (fun mm82 => some mm82) else none))))))))))) else none))))))))))) else none))))))))))))))))))))))))))))
set_option maxHeartbeats 4000000 in
set_option maxRecDepth 100000 in
theorem k_XReader_readNode (l : Launch) (D : va_G) (tA : Nat → ClassId) (b : Nat) (sh : zSh) (n : Nat) {mm : zMem} {o : Nat} {x0_ : Nat} {x1_ : Int32} {r : zMem} (h : F_XReader_readNode sh mm o x0_ x1_ = some r) : zM l D tA b zy_XReader_readNode zb_XReader_readNode 3 none 7 158 0 0 [.ref (b + o), .ref (b + x0_), .int x1_] (zW tA b sh mm) n (zE none (zW tA b sh r) n) := by
  unfold F_XReader_readNode at h
  refine zM_of (own := "OrreryBox$Reader") (plainFor_of_name (by decide)) rfl (Nat.le_of_ble_eq_true rfl) (fun p e s m below meth c F hr hin hH => ?_)
  refine zr_aload_n F zd_XReader_readNode_0 rfl ?_
  refine zr_iconstv (v := 0) F zd_XReader_readNode_1 (by decide) ?_
  obtain ⟨le2, hs1, h⟩ := zoS_s h
  refine zr_put F 3 2 zd_XReader_readNode_2 (zW_o hs1 (by decide)) rfl (by decide) zw_221 rfl rfl rfl rfl (by exact (Nat.le_of_ble_eq_true rfl)) ?_
  obtain ⟨mm3, emm3, h⟩ := zoL_s h
  refine zr_norm (zW tA b sh mm3) _ (by rw [emm3]; exact zW_pI (v := 0) hs1 (by decide) (zf_I_3_2 b _ _ _)) rfl ?_
  refine zr_aload_n F zd_XReader_readNode_5 rfl ?_
  refine zr_aload_n F zd_XReader_readNode_6 rfl ?_
  refine zr_ldcS F 27 "parent" zd_XReader_readNode_7 (by decide +kernel) ?_
  refine zr_iconstv (v := (-1)) F zd_XReader_readNode_9 (by decide) ?_
  refine zr_pcn 10 rfl ?_
  refine zr_iload_n F zd_XReader_readNode_10 rfl ?_
  refine zr_iconstv (v := 1) F zd_XReader_readNode_11 (by decide) ?_
  refine zr_isub F zd_XReader_readNode_12 ?_
  obtain ⟨le5, hs4, h⟩ := zoS_s h
  obtain ⟨p6, ep6, h⟩ := zoB_s h
  refine zr_callV1 F (k_XReader_number l D tA b sh _ ep6) zd_XReader_readNode_13 (zW_o hs4 (by decide)) rfl zs_XReader_138 rfl zq_XReader_number rfl rfl ⟨(Nat.le_of_ble_eq_true rfl), (Nat.le_of_ble_eq_true rfl)⟩ (Nat.le_of_ble_eq_true rfl) ⟨(Nat.le_of_ble_eq_true rfl), (Nat.le_of_ble_eq_true rfl)⟩ ?_
  obtain ⟨le8, hs7, h⟩ := zoS_s h
  refine zr_put F 3 0 zd_XReader_readNode_16 (zW_o hs7 (by decide)) rfl (by decide) zw_215 rfl rfl rfl rfl (by exact (Nat.le_of_ble_eq_true rfl)) ?_
  obtain ⟨mm9, emm9, h⟩ := zoL_s h
  refine zr_norm (zW tA b sh mm9) _ (by rw [emm9]; exact zW_pI (v := (p6.1)) hs7 (by decide) (zf_I_3_0 b _ _ _)) rfl ?_
  refine zr_aload_n F zd_XReader_readNode_19 rfl ?_
  refine zr_bipushv (v := 44) F zd_XReader_readNode_20 (by decide) ?_
  obtain ⟨le11, hs10, h⟩ := zoS_s h
  obtain ⟨p12, ep12, h⟩ := zoB_s h
  refine zr_callV0 F (k_XReader_need l D tA b sh _ ep12) zd_XReader_readNode_22 (zW_o hs10 (by decide)) rfl zs_XReader_45 rfl zq_XReader_need rfl rfl ⟨(Nat.le_of_ble_eq_true rfl), (Nat.le_of_ble_eq_true rfl)⟩ (Nat.le_of_ble_eq_true rfl) ⟨(Nat.le_of_ble_eq_true rfl), (Nat.le_of_ble_eq_true rfl)⟩ ?_
  refine zr_pcn 25 rfl ?_
  refine zr_aload_n F zd_XReader_readNode_25 rfl ?_
  refine zr_aload_n F zd_XReader_readNode_26 rfl ?_
  refine zr_ldcS F 28 "mesh" zd_XReader_readNode_27 (by decide +kernel) ?_
  refine zr_iconstv (v := (-1)) F zd_XReader_readNode_29 (by decide) ?_
  refine zr_aload_n F zd_XReader_readNode_30 rfl ?_
  obtain ⟨le14, hs13, h⟩ := zoS_s h
  obtain ⟨a15, ea15, h⟩ := zoB_s h
  refine zr_get F 7 7 zd_XReader_readNode_31 (zW_o hs13 (by decide)) rfl (by decide) zw_55 rfl (by rfl) ?_
  refine zr_tor ea15 ?_
  obtain ⟨le17, hs16, h⟩ := zoS_s h
  obtain ⟨a18, ea18, h⟩ := zoB_s h
  refine zr_get F 8 0 zd_XReader_readNode_34 (zW_o hs16 (by decide)) rfl (by decide) zw_284 rfl (by rfl) ?_
  refine zr_tor ea18 ?_
  refine zr_iconstv (v := 2) F zd_XReader_readNode_37 (by decide) ?_
  refine zr_pcn 38 rfl ?_
  obtain ⟨le20, hs19, h⟩ := zoS_s h
  obtain ⟨hi21, h⟩ := zoI_s h
  refine zr_iald F zd_XReader_readNode_38 (zW_a0 hs19) hi21 ?_
  refine zr_iconstv (v := 1) F zd_XReader_readNode_39 (by decide) ?_
  refine zr_isub F zd_XReader_readNode_40 ?_
  obtain ⟨le23, hs22, h⟩ := zoS_s h
  obtain ⟨x24, ex24, h⟩ := zoL_s h
  rw [← ex24]
  obtain ⟨p25, ep25, h⟩ := zoB_s h
  refine zr_callV1 F (k_XReader_number l D tA b sh _ ep25) zd_XReader_readNode_41 (zW_o hs22 (by decide)) rfl zs_XReader_138 rfl zq_XReader_number rfl rfl ⟨(Nat.le_of_ble_eq_true rfl), (Nat.le_of_ble_eq_true rfl)⟩ (Nat.le_of_ble_eq_true rfl) ⟨(Nat.le_of_ble_eq_true rfl), (Nat.le_of_ble_eq_true rfl)⟩ ?_
  obtain ⟨le27, hs26, h⟩ := zoS_s h
  refine zr_put F 3 1 zd_XReader_readNode_44 (zW_o hs26 (by decide)) rfl (by decide) zw_219 rfl rfl rfl rfl (by exact (Nat.le_of_ble_eq_true rfl)) ?_
  obtain ⟨mm28, emm28, h⟩ := zoL_s h
  refine zr_norm (zW tA b sh mm28) _ (by rw [emm28]; exact zW_pI (v := (p25.1)) hs26 (by decide) (zf_I_3_1 b _ _ _)) rfl ?_
  refine zr_aload_n F zd_XReader_readNode_47 rfl ?_
  refine zr_bipushv (v := 44) F zd_XReader_readNode_48 (by decide) ?_
  obtain ⟨le30, hs29, h⟩ := zoS_s h
  obtain ⟨p31, ep31, h⟩ := zoB_s h
  refine zr_callV0 F (k_XReader_need l D tA b sh _ ep31) zd_XReader_readNode_50 (zW_o hs29 (by decide)) rfl zs_XReader_45 rfl zq_XReader_need rfl rfl ⟨(Nat.le_of_ble_eq_true rfl), (Nat.le_of_ble_eq_true rfl)⟩ (Nat.le_of_ble_eq_true rfl) ⟨(Nat.le_of_ble_eq_true rfl), (Nat.le_of_ble_eq_true rfl)⟩ ?_
  refine zr_pcn 53 rfl ?_
  refine zr_aload_n F zd_XReader_readNode_53 rfl ?_
  refine zr_ldcS F 10 "move" zd_XReader_readNode_54 (by decide +kernel) ?_
  refine zr_iconstv (v := 3) F zd_XReader_readNode_56 (by decide) ?_
  refine zr_iconstv (v := 3) F zd_XReader_readNode_57 (by decide) ?_
  refine zr_ldc F zd_XReader_readNode_58 zw_1185 ?_
  refine zr_ldc F zd_XReader_readNode_60 zw_1186 ?_
  refine zr_iconstv (v := 0) F zd_XReader_readNode_62 (by decide) ?_
  obtain ⟨le33, hs32, h⟩ := zoS_s h
  obtain ⟨p34, ep34, h⟩ := zoB_s h
  refine zr_callV1 F (k_XReader_numbers l D tA b sh _ ep34) zd_XReader_readNode_63 (zW_o hs32 (by decide)) rfl zs_XReader_160 rfl zq_XReader_numbers rfl rfl ⟨(Nat.le_of_ble_eq_true rfl), (Nat.le_of_ble_eq_true rfl)⟩ (Nat.le_of_ble_eq_true rfl) ⟨(Nat.le_of_ble_eq_true rfl), (Nat.le_of_ble_eq_true rfl)⟩ ?_
  refine zr_pcn 66 rfl ?_
  refine zr_pop F zd_XReader_readNode_66 rfl ?_
  refine zr_aload_n F zd_XReader_readNode_67 rfl ?_
  obtain ⟨le36, hs35, h⟩ := zoS_s h
  obtain ⟨a37, ea37, h⟩ := zoB_s h
  refine zr_get F 7 2 zd_XReader_readNode_68 (zW_o hs35 (by decide)) rfl (by decide) zw_50 rfl (by rfl) ?_
  refine zr_tor ea37 ?_
  refine zr_iconstv (v := 0) F zd_XReader_readNode_71 (by decide) ?_
  refine zr_aload_n F zd_XReader_readNode_72 rfl ?_
  obtain ⟨le39, hs38, h⟩ := zoS_s h
  obtain ⟨a40, ea40, h⟩ := zoB_s h
  refine zr_get F 3 4 zd_XReader_readNode_73 (zW_o hs38 (by decide)) rfl (by decide) zw_228 rfl (by rfl) ?_
  refine zr_tor ea40 ?_
  refine zr_iconstv (v := 0) F zd_XReader_readNode_76 (by decide) ?_
  refine zr_iconstv (v := 3) F zd_XReader_readNode_77 (by decide) ?_
  refine zr_pcn 78 rfl ?_
  obtain ⟨le41, hs42, h⟩ := zoS_s h
  obtain ⟨le43, hs44, h⟩ := zoS_s h
  obtain ⟨hc45, h⟩ := zoT_s h
  obtain ⟨mm46, emm46, h⟩ := zoL_s h
  refine zr_copy F zd_XReader_readNode_78 zw_1202 zw_724 zw_723 zw_26 (zW_a0 hs42) (zW_a0 hs44) hc45.1 hc45.2.1 hc45.2.2.1 hc45.2.2.2.1 hc45.2.2.2.2 (Nat.le_of_ble_eq_true rfl) (Nat.le_of_ble_eq_true rfl) ?_
  refine zr_norm (zW tA b sh mm46) _ (by rw [emm46]; exact zW_c hs44) rfl ?_
  refine zr_aload_n F zd_XReader_readNode_81 rfl ?_
  refine zr_bipushv (v := 44) F zd_XReader_readNode_82 (by decide) ?_
  obtain ⟨le48, hs47, h⟩ := zoS_s h
  obtain ⟨p49, ep49, h⟩ := zoB_s h
  refine zr_callV0 F (k_XReader_need l D tA b sh _ ep49) zd_XReader_readNode_84 (zW_o hs47 (by decide)) rfl zs_XReader_45 rfl zq_XReader_need rfl rfl ⟨(Nat.le_of_ble_eq_true rfl), (Nat.le_of_ble_eq_true rfl)⟩ (Nat.le_of_ble_eq_true rfl) ⟨(Nat.le_of_ble_eq_true rfl), (Nat.le_of_ble_eq_true rfl)⟩ ?_
  refine zr_aload_n F zd_XReader_readNode_87 rfl ?_
  refine zr_ldcS F 11 "turn" zd_XReader_readNode_88 (by decide +kernel) ?_
  refine zr_iconstv (v := 3) F zd_XReader_readNode_90 (by decide) ?_
  refine zr_iconstv (v := 3) F zd_XReader_readNode_91 (by decide) ?_
  refine zr_pcn 92 rfl ?_
  refine zr_ldc F zd_XReader_readNode_92 zw_1204 ?_
  refine zr_ldc F zd_XReader_readNode_94 zw_1205 ?_
  refine zr_iconstv (v := 0) F zd_XReader_readNode_96 (by decide) ?_
  obtain ⟨le51, hs50, h⟩ := zoS_s h
  obtain ⟨p52, ep52, h⟩ := zoB_s h
  refine zr_callV1 F (k_XReader_numbers l D tA b sh _ ep52) zd_XReader_readNode_97 (zW_o hs50 (by decide)) rfl zs_XReader_160 rfl zq_XReader_numbers rfl rfl ⟨(Nat.le_of_ble_eq_true rfl), (Nat.le_of_ble_eq_true rfl)⟩ (Nat.le_of_ble_eq_true rfl) ⟨(Nat.le_of_ble_eq_true rfl), (Nat.le_of_ble_eq_true rfl)⟩ ?_
  refine zr_pop F zd_XReader_readNode_100 rfl ?_
  refine zr_aload_n F zd_XReader_readNode_101 rfl ?_
  obtain ⟨le54, hs53, h⟩ := zoS_s h
  obtain ⟨a55, ea55, h⟩ := zoB_s h
  refine zr_get F 7 2 zd_XReader_readNode_102 (zW_o hs53 (by decide)) rfl (by decide) zw_50 rfl (by rfl) ?_
  refine zr_tor ea55 ?_
  refine zr_iconstv (v := 0) F zd_XReader_readNode_105 (by decide) ?_
  refine zr_pcn 106 rfl ?_
  refine zr_aload_n F zd_XReader_readNode_106 rfl ?_
  obtain ⟨le57, hs56, h⟩ := zoS_s h
  obtain ⟨a58, ea58, h⟩ := zoB_s h
  refine zr_get F 3 4 zd_XReader_readNode_107 (zW_o hs56 (by decide)) rfl (by decide) zw_228 rfl (by rfl) ?_
  refine zr_tor ea58 ?_
  refine zr_iconstv (v := 3) F zd_XReader_readNode_110 (by decide) ?_
  refine zr_iconstv (v := 3) F zd_XReader_readNode_111 (by decide) ?_
  obtain ⟨le59, hs60, h⟩ := zoS_s h
  obtain ⟨le61, hs62, h⟩ := zoS_s h
  obtain ⟨hc63, h⟩ := zoT_s h
  obtain ⟨mm64, emm64, h⟩ := zoL_s h
  refine zr_copy F zd_XReader_readNode_112 zw_1202 zw_724 zw_723 zw_26 (zW_a0 hs60) (zW_a0 hs62) hc63.1 hc63.2.1 hc63.2.2.1 hc63.2.2.2.1 hc63.2.2.2.2 (Nat.le_of_ble_eq_true rfl) (Nat.le_of_ble_eq_true rfl) ?_
  refine zr_norm (zW tA b sh mm64) _ (by rw [emm64]; exact zW_c hs62) rfl ?_
  refine zr_aload_n F zd_XReader_readNode_115 rfl ?_
  refine zr_bipushv (v := 44) F zd_XReader_readNode_116 (by decide) ?_
  obtain ⟨le66, hs65, h⟩ := zoS_s h
  obtain ⟨p67, ep67, h⟩ := zoB_s h
  refine zr_callV0 F (k_XReader_need l D tA b sh _ ep67) zd_XReader_readNode_118 (zW_o hs65 (by decide)) rfl zs_XReader_45 rfl zq_XReader_need rfl rfl ⟨(Nat.le_of_ble_eq_true rfl), (Nat.le_of_ble_eq_true rfl)⟩ (Nat.le_of_ble_eq_true rfl) ⟨(Nat.le_of_ble_eq_true rfl), (Nat.le_of_ble_eq_true rfl)⟩ ?_
  refine zr_pcn 121 rfl ?_
  refine zr_aload_n F zd_XReader_readNode_121 rfl ?_
  refine zr_ldcS F 29 "size" zd_XReader_readNode_122 (by decide +kernel) ?_
  refine zr_iconstv (v := 3) F zd_XReader_readNode_124 (by decide) ?_
  refine zr_iconstv (v := 3) F zd_XReader_readNode_125 (by decide) ?_
  refine zr_ldc F zd_XReader_readNode_126 zw_1204 ?_
  refine zr_ldc F zd_XReader_readNode_128 zw_1205 ?_
  refine zr_iconstv (v := 0) F zd_XReader_readNode_130 (by decide) ?_
  obtain ⟨le69, hs68, h⟩ := zoS_s h
  obtain ⟨p70, ep70, h⟩ := zoB_s h
  refine zr_callV1 F (k_XReader_numbers l D tA b sh _ ep70) zd_XReader_readNode_131 (zW_o hs68 (by decide)) rfl zs_XReader_160 rfl zq_XReader_numbers rfl rfl ⟨(Nat.le_of_ble_eq_true rfl), (Nat.le_of_ble_eq_true rfl)⟩ (Nat.le_of_ble_eq_true rfl) ⟨(Nat.le_of_ble_eq_true rfl), (Nat.le_of_ble_eq_true rfl)⟩ ?_
  refine zr_pcn 134 rfl ?_
  refine zr_pop F zd_XReader_readNode_134 rfl ?_
  refine zr_aload_n F zd_XReader_readNode_135 rfl ?_
  obtain ⟨le72, hs71, h⟩ := zoS_s h
  obtain ⟨a73, ea73, h⟩ := zoB_s h
  refine zr_get F 7 2 zd_XReader_readNode_136 (zW_o hs71 (by decide)) rfl (by decide) zw_50 rfl (by rfl) ?_
  refine zr_tor ea73 ?_
  refine zr_iconstv (v := 0) F zd_XReader_readNode_139 (by decide) ?_
  refine zr_aload_n F zd_XReader_readNode_140 rfl ?_
  obtain ⟨le75, hs74, h⟩ := zoS_s h
  obtain ⟨a76, ea76, h⟩ := zoB_s h
  refine zr_get F 3 4 zd_XReader_readNode_141 (zW_o hs74 (by decide)) rfl (by decide) zw_228 rfl (by rfl) ?_
  refine zr_tor ea76 ?_
  refine zr_bipushv (v := 6) F zd_XReader_readNode_144 (by decide) ?_
  refine zr_iconstv (v := 3) F zd_XReader_readNode_146 (by decide) ?_
  refine zr_pcn 147 rfl ?_
  obtain ⟨le77, hs78, h⟩ := zoS_s h
  obtain ⟨le79, hs80, h⟩ := zoS_s h
  obtain ⟨hc81, h⟩ := zoT_s h
  obtain ⟨mm82, emm82, h⟩ := zoL_s h
  refine zr_copy F zd_XReader_readNode_147 zw_1202 zw_724 zw_723 zw_26 (zW_a0 hs78) (zW_a0 hs80) hc81.1 hc81.2.1 hc81.2.2.1 hc81.2.2.2.1 hc81.2.2.2.2 (Nat.le_of_ble_eq_true rfl) (Nat.le_of_ble_eq_true rfl) ?_
  refine zr_norm (zW tA b sh mm82) _ (by rw [emm82]; exact zW_c hs80) rfl ?_
  obtain rfl := Option.some.inj h
  exact zr_vret F hr zd_XReader_readNode_150 (Nat.le_of_ble_eq_true rfl) (Nat.le_of_ble_eq_true rfl) ⟨rfl, rfl, rfl⟩
def T_XReader_readNode (sh : zSh) (mm : zMem) (o : Nat) (x0_ : Nat) (x1_ : Int32) : Option zMem := zoS (sh x0_) 3 (fun le2 => zoL (mI mm x0_ 2 0) (fun mm3 => zoS (sh o) 7 (fun le5 => zoX (F_XReader_number sh mm3 o 27 (-1) (x1_ - 1)) (T_XReader_number sh mm3 o 27 (-1) (x1_ - 1)) (fun p6 => zoS (sh x0_) 3 (fun le8 => zoL (mI (p6.2) x0_ 0 (p6.1)) (fun mm9 => zoS (sh o) 7 (fun le11 => zoX (F_XReader_need sh mm9 o 44) (T_XReader_need sh mm9 o 44) (fun p12 => zoS (sh o) 7 (fun le14 => Option.bind (p12.2.2 o 7) (fun a15 => zoS (sh a15) 8 (fun le17 => Option.bind (p12.2.2 a15 0) (fun a18 => zoS (sh a18) 100 (fun le20 => if (2 : Int32) < 0 ∨ le20 ≤ (2 : Int32).toNatClampNeg then none else zoS (sh o) 7 (fun le23 => zoL ((p12.1 a18 (2 : Int32).toNatClampNeg) - 1) (fun x24 => zoX (F_XReader_number sh p12 o 28 (-1) x24) (T_XReader_number sh p12 o 28 (-1) x24) (fun p25 => zoS (sh x0_) 3 (fun le27 => zoL (mI (p25.2) x0_ 1 (p25.1)) (fun mm28 => zoS (sh o) 7 (fun le30 => zoX (F_XReader_need sh mm28 o 44) (T_XReader_need sh mm28 o 44) (fun p31 => zoS (sh o) 7 (fun le33 => zoX (F_XReader_numbers sh p31 o 10 3 3 (-4194304) 4194304 0) (T_XReader_numbers sh p31 o 10 3 3 (-4194304) 4194304 0) (fun p34 => zoS (sh o) 7 (fun le36 => Option.bind ((p34.2).2.2 o 2) (fun a37 => zoS (sh x0_) 3 (fun le39 => Option.bind ((p34.2).2.2 x0_ 4) (fun a40 => zoS (sh a37) 100 (fun le41 => zoS (sh a40) 100 (fun le43 => if ¬ (0 : Int32) < 0 ∧ ¬ (0 : Int32) < 0 ∧ ¬ (3 : Int32) < 0 ∧ (0 : Int32).toNatClampNeg + (3 : Int32).toNatClampNeg ≤ le41 ∧ (0 : Int32).toNatClampNeg + (3 : Int32).toNatClampNeg ≤ le43 then zoL (mC (p34.2) a37 a40 (0 : Int32).toNatClampNeg (0 : Int32).toNatClampNeg (3 : Int32).toNatClampNeg) (fun mm46 => zoS (sh o) 7 (fun le48 => zoX (F_XReader_need sh mm46 o 44) (T_XReader_need sh mm46 o 44) (fun p49 => zoS (sh o) 7 (fun le51 => zoX (F_XReader_numbers sh p49 o 11 3 3 (-1048576) 1048576 0) (T_XReader_numbers sh p49 o 11 3 3 (-1048576) 1048576 0) (fun p52 => zoS (sh o) 7 (fun le54 => Option.bind ((p52.2).2.2 o 2) (fun a55 => zoS (sh x0_) 3 (fun le57 => Option.bind ((p52.2).2.2 x0_ 4) (fun a58 => zoS (sh a55) 100 (fun le59 => zoS (sh a58) 100 (fun le61 => if ¬ (0 : Int32) < 0 ∧ ¬ (3 : Int32) < 0 ∧ ¬ (3 : Int32) < 0 ∧ (0 : Int32).toNatClampNeg + (3 : Int32).toNatClampNeg ≤ le59 ∧ (3 : Int32).toNatClampNeg + (3 : Int32).toNatClampNeg ≤ le61 then zoL (mC (p52.2) a55 a58 (0 : Int32).toNatClampNeg (3 : Int32).toNatClampNeg (3 : Int32).toNatClampNeg) (fun mm64 => zoS (sh o) 7 (fun le66 => zoX (F_XReader_need sh mm64 o 44) (T_XReader_need sh mm64 o 44) (fun p67 => zoS (sh o) 7 (fun le69 => zoX (F_XReader_numbers sh p67 o 29 3 3 (-1048576) 1048576 0) (T_XReader_numbers sh p67 o 29 3 3 (-1048576) 1048576 0) (fun p70 => zoS (sh o) 7 (fun le72 => Option.bind ((p70.2).2.2 o 2) (fun a73 => zoS (sh x0_) 3 (fun le75 => Option.bind ((p70.2).2.2 x0_ 4) (fun a76 => zoS (sh a73) 100 (fun le77 => zoS (sh a76) 100 (fun le79 => if ¬ (0 : Int32) < 0 ∧ ¬ (6 : Int32) < 0 ∧ ¬ (3 : Int32) < 0 ∧ (0 : Int32).toNatClampNeg + (3 : Int32).toNatClampNeg ≤ le77 ∧ (6 : Int32).toNatClampNeg + (3 : Int32).toNatClampNeg ≤ le79 then zoL (mC (p70.2) a73 a76 (0 : Int32).toNatClampNeg (6 : Int32).toNatClampNeg (3 : Int32).toNatClampNeg) (fun mm82 => none) else none))))))))))) else none))))))))))) else none))))))))))))))))))))))))))))
set_option maxHeartbeats 4000000 in
set_option maxRecDepth 100000 in
theorem kT_XReader_readNode (l : Launch) (D : va_G) (tA : Nat → ClassId) (b : Nat) (sh : zSh) (n : Nat) (hl : l.stackTraces = false) {mm : zMem} {o : Nat} {x0_ : Nat} {x1_ : Int32} {r : zMem} (h : T_XReader_readNode sh mm o x0_ x1_ = some r) : zMT l D tA b zy_XReader_readNode zb_XReader_readNode 3 none 9 166 1 6 [.ref (b + o), .ref (b + x0_), .int x1_] (zW tA b sh mm) n "java/lang/IllegalArgumentException" (zW tA b sh r) (n + 1) := by
  unfold T_XReader_readNode at h
  refine zMT_of (own := "OrreryBox$Reader") (plainFor_of_name (by decide)) rfl (Nat.le_of_ble_eq_true rfl) (fun p e s m below meth c F hno hH => ?_)
  refine zr_aload_n F zd_XReader_readNode_0 rfl ?_
  refine zr_iconstv (v := 0) F zd_XReader_readNode_1 (by decide) ?_
  obtain ⟨le2, hs1, h⟩ := zoS_s h
  refine zr_put F 3 2 zd_XReader_readNode_2 (zW_o hs1 (by decide)) rfl (by decide) zw_221 rfl rfl rfl rfl (by exact (Nat.le_of_ble_eq_true rfl)) ?_
  obtain ⟨mm3, emm3, h⟩ := zoL_s h
  refine zr_norm (zW tA b sh mm3) _ (by rw [emm3]; exact zW_pI (v := 0) hs1 (by decide) (zf_I_3_2 b _ _ _)) rfl ?_
  refine zr_aload_n F zd_XReader_readNode_5 rfl ?_
  refine zr_aload_n F zd_XReader_readNode_6 rfl ?_
  refine zr_ldcS F 27 "parent" zd_XReader_readNode_7 (by decide +kernel) ?_
  refine zr_iconstv (v := (-1)) F zd_XReader_readNode_9 (by decide) ?_
  refine zr_pcn 10 rfl ?_
  refine zr_iload_n F zd_XReader_readNode_10 rfl ?_
  refine zr_iconstv (v := 1) F zd_XReader_readNode_11 (by decide) ?_
  refine zr_isub F zd_XReader_readNode_12 ?_
  obtain ⟨le5, hs4, h⟩ := zoS_s h
  cases ep6 : F_XReader_number sh mm3 o 27 (-1) (x1_ - 1) with
  | none =>
    rw [ep6] at h
    dsimp only [zoX] at h
    exact zr_thrV F hno (kT_XReader_number l D tA b sh _ hl h) zd_XReader_readNode_13 (zW_o hs4 (by decide)) rfl zs_XReader_138 rfl zq_XReader_number rfl rfl ⟨(Nat.le_of_ble_eq_true rfl), (Nat.le_of_ble_eq_true rfl)⟩ (Nat.le_of_ble_eq_true rfl) ⟨(Nat.le_of_ble_eq_true rfl), (Nat.le_of_ble_eq_true rfl)⟩ ⟨(Nat.le_of_ble_eq_true rfl), (Nat.le_of_ble_eq_true rfl)⟩
  | some p6 =>
    rw [ep6] at h
    dsimp only [zoX] at h
    refine zr_callV1 F (k_XReader_number l D tA b sh _ ep6) zd_XReader_readNode_13 (zW_o hs4 (by decide)) rfl zs_XReader_138 rfl zq_XReader_number rfl rfl ⟨(Nat.le_of_ble_eq_true rfl), (Nat.le_of_ble_eq_true rfl)⟩ (Nat.le_of_ble_eq_true rfl) ⟨(Nat.le_of_ble_eq_true rfl), (Nat.le_of_ble_eq_true rfl)⟩ ?_
    obtain ⟨le8, hs7, h⟩ := zoS_s h
    refine zr_put F 3 0 zd_XReader_readNode_16 (zW_o hs7 (by decide)) rfl (by decide) zw_215 rfl rfl rfl rfl (by exact (Nat.le_of_ble_eq_true rfl)) ?_
    obtain ⟨mm9, emm9, h⟩ := zoL_s h
    refine zr_norm (zW tA b sh mm9) _ (by rw [emm9]; exact zW_pI (v := (p6.1)) hs7 (by decide) (zf_I_3_0 b _ _ _)) rfl ?_
    refine zr_aload_n F zd_XReader_readNode_19 rfl ?_
    refine zr_bipushv (v := 44) F zd_XReader_readNode_20 (by decide) ?_
    obtain ⟨le11, hs10, h⟩ := zoS_s h
    cases ep12 : F_XReader_need sh mm9 o 44 with
    | none =>
      rw [ep12] at h
      dsimp only [zoX] at h
      exact zr_thrV F hno (kT_XReader_need l D tA b sh _ hl h) zd_XReader_readNode_22 (zW_o hs10 (by decide)) rfl zs_XReader_45 rfl zq_XReader_need rfl rfl ⟨(Nat.le_of_ble_eq_true rfl), (Nat.le_of_ble_eq_true rfl)⟩ (Nat.le_of_ble_eq_true rfl) ⟨(Nat.le_of_ble_eq_true rfl), (Nat.le_of_ble_eq_true rfl)⟩ ⟨(Nat.le_of_ble_eq_true rfl), (Nat.le_of_ble_eq_true rfl)⟩
    | some p12 =>
      rw [ep12] at h
      dsimp only [zoX] at h
      refine zr_callV0 F (k_XReader_need l D tA b sh _ ep12) zd_XReader_readNode_22 (zW_o hs10 (by decide)) rfl zs_XReader_45 rfl zq_XReader_need rfl rfl ⟨(Nat.le_of_ble_eq_true rfl), (Nat.le_of_ble_eq_true rfl)⟩ (Nat.le_of_ble_eq_true rfl) ⟨(Nat.le_of_ble_eq_true rfl), (Nat.le_of_ble_eq_true rfl)⟩ ?_
      refine zr_pcn 25 rfl ?_
      refine zr_aload_n F zd_XReader_readNode_25 rfl ?_
      refine zr_aload_n F zd_XReader_readNode_26 rfl ?_
      refine zr_ldcS F 28 "mesh" zd_XReader_readNode_27 (by decide +kernel) ?_
      refine zr_iconstv (v := (-1)) F zd_XReader_readNode_29 (by decide) ?_
      refine zr_aload_n F zd_XReader_readNode_30 rfl ?_
      obtain ⟨le14, hs13, h⟩ := zoS_s h
      obtain ⟨a15, ea15, h⟩ := zoB_s h
      refine zr_get F 7 7 zd_XReader_readNode_31 (zW_o hs13 (by decide)) rfl (by decide) zw_55 rfl (by rfl) ?_
      refine zr_tor ea15 ?_
      obtain ⟨le17, hs16, h⟩ := zoS_s h
      obtain ⟨a18, ea18, h⟩ := zoB_s h
      refine zr_get F 8 0 zd_XReader_readNode_34 (zW_o hs16 (by decide)) rfl (by decide) zw_284 rfl (by rfl) ?_
      refine zr_tor ea18 ?_
      refine zr_iconstv (v := 2) F zd_XReader_readNode_37 (by decide) ?_
      refine zr_pcn 38 rfl ?_
      obtain ⟨le20, hs19, h⟩ := zoS_s h
      obtain ⟨hi21, h⟩ := zoI_s h
      refine zr_iald F zd_XReader_readNode_38 (zW_a0 hs19) hi21 ?_
      refine zr_iconstv (v := 1) F zd_XReader_readNode_39 (by decide) ?_
      refine zr_isub F zd_XReader_readNode_40 ?_
      obtain ⟨le23, hs22, h⟩ := zoS_s h
      obtain ⟨x24, ex24, h⟩ := zoL_s h
      rw [← ex24]
      cases ep25 : F_XReader_number sh p12 o 28 (-1) x24 with
      | none =>
        rw [ep25] at h
        dsimp only [zoX] at h
        exact zr_thrV F hno (kT_XReader_number l D tA b sh _ hl h) zd_XReader_readNode_41 (zW_o hs22 (by decide)) rfl zs_XReader_138 rfl zq_XReader_number rfl rfl ⟨(Nat.le_of_ble_eq_true rfl), (Nat.le_of_ble_eq_true rfl)⟩ (Nat.le_of_ble_eq_true rfl) ⟨(Nat.le_of_ble_eq_true rfl), (Nat.le_of_ble_eq_true rfl)⟩ ⟨(Nat.le_of_ble_eq_true rfl), (Nat.le_of_ble_eq_true rfl)⟩
      | some p25 =>
        rw [ep25] at h
        dsimp only [zoX] at h
        refine zr_callV1 F (k_XReader_number l D tA b sh _ ep25) zd_XReader_readNode_41 (zW_o hs22 (by decide)) rfl zs_XReader_138 rfl zq_XReader_number rfl rfl ⟨(Nat.le_of_ble_eq_true rfl), (Nat.le_of_ble_eq_true rfl)⟩ (Nat.le_of_ble_eq_true rfl) ⟨(Nat.le_of_ble_eq_true rfl), (Nat.le_of_ble_eq_true rfl)⟩ ?_
        obtain ⟨le27, hs26, h⟩ := zoS_s h
        refine zr_put F 3 1 zd_XReader_readNode_44 (zW_o hs26 (by decide)) rfl (by decide) zw_219 rfl rfl rfl rfl (by exact (Nat.le_of_ble_eq_true rfl)) ?_
        obtain ⟨mm28, emm28, h⟩ := zoL_s h
        refine zr_norm (zW tA b sh mm28) _ (by rw [emm28]; exact zW_pI (v := (p25.1)) hs26 (by decide) (zf_I_3_1 b _ _ _)) rfl ?_
        refine zr_aload_n F zd_XReader_readNode_47 rfl ?_
        refine zr_bipushv (v := 44) F zd_XReader_readNode_48 (by decide) ?_
        obtain ⟨le30, hs29, h⟩ := zoS_s h
        cases ep31 : F_XReader_need sh mm28 o 44 with
        | none =>
          rw [ep31] at h
          dsimp only [zoX] at h
          exact zr_thrV F hno (kT_XReader_need l D tA b sh _ hl h) zd_XReader_readNode_50 (zW_o hs29 (by decide)) rfl zs_XReader_45 rfl zq_XReader_need rfl rfl ⟨(Nat.le_of_ble_eq_true rfl), (Nat.le_of_ble_eq_true rfl)⟩ (Nat.le_of_ble_eq_true rfl) ⟨(Nat.le_of_ble_eq_true rfl), (Nat.le_of_ble_eq_true rfl)⟩ ⟨(Nat.le_of_ble_eq_true rfl), (Nat.le_of_ble_eq_true rfl)⟩
        | some p31 =>
          rw [ep31] at h
          dsimp only [zoX] at h
          refine zr_callV0 F (k_XReader_need l D tA b sh _ ep31) zd_XReader_readNode_50 (zW_o hs29 (by decide)) rfl zs_XReader_45 rfl zq_XReader_need rfl rfl ⟨(Nat.le_of_ble_eq_true rfl), (Nat.le_of_ble_eq_true rfl)⟩ (Nat.le_of_ble_eq_true rfl) ⟨(Nat.le_of_ble_eq_true rfl), (Nat.le_of_ble_eq_true rfl)⟩ ?_
          refine zr_pcn 53 rfl ?_
          refine zr_aload_n F zd_XReader_readNode_53 rfl ?_
          refine zr_ldcS F 10 "move" zd_XReader_readNode_54 (by decide +kernel) ?_
          refine zr_iconstv (v := 3) F zd_XReader_readNode_56 (by decide) ?_
          refine zr_iconstv (v := 3) F zd_XReader_readNode_57 (by decide) ?_
          refine zr_ldc F zd_XReader_readNode_58 zw_1185 ?_
          refine zr_ldc F zd_XReader_readNode_60 zw_1186 ?_
          refine zr_iconstv (v := 0) F zd_XReader_readNode_62 (by decide) ?_
          obtain ⟨le33, hs32, h⟩ := zoS_s h
          cases ep34 : F_XReader_numbers sh p31 o 10 3 3 (-4194304) 4194304 0 with
          | none =>
            rw [ep34] at h
            dsimp only [zoX] at h
            exact zr_thrV F hno (kT_XReader_numbers l D tA b sh _ hl h) zd_XReader_readNode_63 (zW_o hs32 (by decide)) rfl zs_XReader_160 rfl zq_XReader_numbers rfl rfl ⟨(Nat.le_of_ble_eq_true rfl), (Nat.le_of_ble_eq_true rfl)⟩ (Nat.le_of_ble_eq_true rfl) ⟨(Nat.le_of_ble_eq_true rfl), (Nat.le_of_ble_eq_true rfl)⟩ ⟨(Nat.le_of_ble_eq_true rfl), (Nat.le_of_ble_eq_true rfl)⟩
          | some p34 =>
            rw [ep34] at h
            dsimp only [zoX] at h
            refine zr_callV1 F (k_XReader_numbers l D tA b sh _ ep34) zd_XReader_readNode_63 (zW_o hs32 (by decide)) rfl zs_XReader_160 rfl zq_XReader_numbers rfl rfl ⟨(Nat.le_of_ble_eq_true rfl), (Nat.le_of_ble_eq_true rfl)⟩ (Nat.le_of_ble_eq_true rfl) ⟨(Nat.le_of_ble_eq_true rfl), (Nat.le_of_ble_eq_true rfl)⟩ ?_
            refine zr_pcn 66 rfl ?_
            refine zr_pop F zd_XReader_readNode_66 rfl ?_
            refine zr_aload_n F zd_XReader_readNode_67 rfl ?_
            obtain ⟨le36, hs35, h⟩ := zoS_s h
            obtain ⟨a37, ea37, h⟩ := zoB_s h
            refine zr_get F 7 2 zd_XReader_readNode_68 (zW_o hs35 (by decide)) rfl (by decide) zw_50 rfl (by rfl) ?_
            refine zr_tor ea37 ?_
            refine zr_iconstv (v := 0) F zd_XReader_readNode_71 (by decide) ?_
            refine zr_aload_n F zd_XReader_readNode_72 rfl ?_
            obtain ⟨le39, hs38, h⟩ := zoS_s h
            obtain ⟨a40, ea40, h⟩ := zoB_s h
            refine zr_get F 3 4 zd_XReader_readNode_73 (zW_o hs38 (by decide)) rfl (by decide) zw_228 rfl (by rfl) ?_
            refine zr_tor ea40 ?_
            refine zr_iconstv (v := 0) F zd_XReader_readNode_76 (by decide) ?_
            refine zr_iconstv (v := 3) F zd_XReader_readNode_77 (by decide) ?_
            refine zr_pcn 78 rfl ?_
            obtain ⟨le41, hs42, h⟩ := zoS_s h
            obtain ⟨le43, hs44, h⟩ := zoS_s h
            obtain ⟨hc45, h⟩ := zoT_s h
            obtain ⟨mm46, emm46, h⟩ := zoL_s h
            refine zr_copy F zd_XReader_readNode_78 zw_1202 zw_724 zw_723 zw_26 (zW_a0 hs42) (zW_a0 hs44) hc45.1 hc45.2.1 hc45.2.2.1 hc45.2.2.2.1 hc45.2.2.2.2 (Nat.le_of_ble_eq_true rfl) (Nat.le_of_ble_eq_true rfl) ?_
            refine zr_norm (zW tA b sh mm46) _ (by rw [emm46]; exact zW_c hs44) rfl ?_
            refine zr_aload_n F zd_XReader_readNode_81 rfl ?_
            refine zr_bipushv (v := 44) F zd_XReader_readNode_82 (by decide) ?_
            obtain ⟨le48, hs47, h⟩ := zoS_s h
            cases ep49 : F_XReader_need sh mm46 o 44 with
            | none =>
              rw [ep49] at h
              dsimp only [zoX] at h
              exact zr_thrV F hno (kT_XReader_need l D tA b sh _ hl h) zd_XReader_readNode_84 (zW_o hs47 (by decide)) rfl zs_XReader_45 rfl zq_XReader_need rfl rfl ⟨(Nat.le_of_ble_eq_true rfl), (Nat.le_of_ble_eq_true rfl)⟩ (Nat.le_of_ble_eq_true rfl) ⟨(Nat.le_of_ble_eq_true rfl), (Nat.le_of_ble_eq_true rfl)⟩ ⟨(Nat.le_of_ble_eq_true rfl), (Nat.le_of_ble_eq_true rfl)⟩
            | some p49 =>
              rw [ep49] at h
              dsimp only [zoX] at h
              refine zr_callV0 F (k_XReader_need l D tA b sh _ ep49) zd_XReader_readNode_84 (zW_o hs47 (by decide)) rfl zs_XReader_45 rfl zq_XReader_need rfl rfl ⟨(Nat.le_of_ble_eq_true rfl), (Nat.le_of_ble_eq_true rfl)⟩ (Nat.le_of_ble_eq_true rfl) ⟨(Nat.le_of_ble_eq_true rfl), (Nat.le_of_ble_eq_true rfl)⟩ ?_
              refine zr_aload_n F zd_XReader_readNode_87 rfl ?_
              refine zr_ldcS F 11 "turn" zd_XReader_readNode_88 (by decide +kernel) ?_
              refine zr_iconstv (v := 3) F zd_XReader_readNode_90 (by decide) ?_
              refine zr_iconstv (v := 3) F zd_XReader_readNode_91 (by decide) ?_
              refine zr_pcn 92 rfl ?_
              refine zr_ldc F zd_XReader_readNode_92 zw_1204 ?_
              refine zr_ldc F zd_XReader_readNode_94 zw_1205 ?_
              refine zr_iconstv (v := 0) F zd_XReader_readNode_96 (by decide) ?_
              obtain ⟨le51, hs50, h⟩ := zoS_s h
              cases ep52 : F_XReader_numbers sh p49 o 11 3 3 (-1048576) 1048576 0 with
              | none =>
                rw [ep52] at h
                dsimp only [zoX] at h
                exact zr_thrV F hno (kT_XReader_numbers l D tA b sh _ hl h) zd_XReader_readNode_97 (zW_o hs50 (by decide)) rfl zs_XReader_160 rfl zq_XReader_numbers rfl rfl ⟨(Nat.le_of_ble_eq_true rfl), (Nat.le_of_ble_eq_true rfl)⟩ (Nat.le_of_ble_eq_true rfl) ⟨(Nat.le_of_ble_eq_true rfl), (Nat.le_of_ble_eq_true rfl)⟩ ⟨(Nat.le_of_ble_eq_true rfl), (Nat.le_of_ble_eq_true rfl)⟩
              | some p52 =>
                rw [ep52] at h
                dsimp only [zoX] at h
                refine zr_callV1 F (k_XReader_numbers l D tA b sh _ ep52) zd_XReader_readNode_97 (zW_o hs50 (by decide)) rfl zs_XReader_160 rfl zq_XReader_numbers rfl rfl ⟨(Nat.le_of_ble_eq_true rfl), (Nat.le_of_ble_eq_true rfl)⟩ (Nat.le_of_ble_eq_true rfl) ⟨(Nat.le_of_ble_eq_true rfl), (Nat.le_of_ble_eq_true rfl)⟩ ?_
                refine zr_pop F zd_XReader_readNode_100 rfl ?_
                refine zr_aload_n F zd_XReader_readNode_101 rfl ?_
                obtain ⟨le54, hs53, h⟩ := zoS_s h
                obtain ⟨a55, ea55, h⟩ := zoB_s h
                refine zr_get F 7 2 zd_XReader_readNode_102 (zW_o hs53 (by decide)) rfl (by decide) zw_50 rfl (by rfl) ?_
                refine zr_tor ea55 ?_
                refine zr_iconstv (v := 0) F zd_XReader_readNode_105 (by decide) ?_
                refine zr_pcn 106 rfl ?_
                refine zr_aload_n F zd_XReader_readNode_106 rfl ?_
                obtain ⟨le57, hs56, h⟩ := zoS_s h
                obtain ⟨a58, ea58, h⟩ := zoB_s h
                refine zr_get F 3 4 zd_XReader_readNode_107 (zW_o hs56 (by decide)) rfl (by decide) zw_228 rfl (by rfl) ?_
                refine zr_tor ea58 ?_
                refine zr_iconstv (v := 3) F zd_XReader_readNode_110 (by decide) ?_
                refine zr_iconstv (v := 3) F zd_XReader_readNode_111 (by decide) ?_
                obtain ⟨le59, hs60, h⟩ := zoS_s h
                obtain ⟨le61, hs62, h⟩ := zoS_s h
                obtain ⟨hc63, h⟩ := zoT_s h
                obtain ⟨mm64, emm64, h⟩ := zoL_s h
                refine zr_copy F zd_XReader_readNode_112 zw_1202 zw_724 zw_723 zw_26 (zW_a0 hs60) (zW_a0 hs62) hc63.1 hc63.2.1 hc63.2.2.1 hc63.2.2.2.1 hc63.2.2.2.2 (Nat.le_of_ble_eq_true rfl) (Nat.le_of_ble_eq_true rfl) ?_
                refine zr_norm (zW tA b sh mm64) _ (by rw [emm64]; exact zW_c hs62) rfl ?_
                refine zr_aload_n F zd_XReader_readNode_115 rfl ?_
                refine zr_bipushv (v := 44) F zd_XReader_readNode_116 (by decide) ?_
                obtain ⟨le66, hs65, h⟩ := zoS_s h
                cases ep67 : F_XReader_need sh mm64 o 44 with
                | none =>
                  rw [ep67] at h
                  dsimp only [zoX] at h
                  exact zr_thrV F hno (kT_XReader_need l D tA b sh _ hl h) zd_XReader_readNode_118 (zW_o hs65 (by decide)) rfl zs_XReader_45 rfl zq_XReader_need rfl rfl ⟨(Nat.le_of_ble_eq_true rfl), (Nat.le_of_ble_eq_true rfl)⟩ (Nat.le_of_ble_eq_true rfl) ⟨(Nat.le_of_ble_eq_true rfl), (Nat.le_of_ble_eq_true rfl)⟩ ⟨(Nat.le_of_ble_eq_true rfl), (Nat.le_of_ble_eq_true rfl)⟩
                | some p67 =>
                  rw [ep67] at h
                  dsimp only [zoX] at h
                  refine zr_callV0 F (k_XReader_need l D tA b sh _ ep67) zd_XReader_readNode_118 (zW_o hs65 (by decide)) rfl zs_XReader_45 rfl zq_XReader_need rfl rfl ⟨(Nat.le_of_ble_eq_true rfl), (Nat.le_of_ble_eq_true rfl)⟩ (Nat.le_of_ble_eq_true rfl) ⟨(Nat.le_of_ble_eq_true rfl), (Nat.le_of_ble_eq_true rfl)⟩ ?_
                  refine zr_pcn 121 rfl ?_
                  refine zr_aload_n F zd_XReader_readNode_121 rfl ?_
                  refine zr_ldcS F 29 "size" zd_XReader_readNode_122 (by decide +kernel) ?_
                  refine zr_iconstv (v := 3) F zd_XReader_readNode_124 (by decide) ?_
                  refine zr_iconstv (v := 3) F zd_XReader_readNode_125 (by decide) ?_
                  refine zr_ldc F zd_XReader_readNode_126 zw_1204 ?_
                  refine zr_ldc F zd_XReader_readNode_128 zw_1205 ?_
                  refine zr_iconstv (v := 0) F zd_XReader_readNode_130 (by decide) ?_
                  obtain ⟨le69, hs68, h⟩ := zoS_s h
                  cases ep70 : F_XReader_numbers sh p67 o 29 3 3 (-1048576) 1048576 0 with
                  | none =>
                    rw [ep70] at h
                    dsimp only [zoX] at h
                    exact zr_thrV F hno (kT_XReader_numbers l D tA b sh _ hl h) zd_XReader_readNode_131 (zW_o hs68 (by decide)) rfl zs_XReader_160 rfl zq_XReader_numbers rfl rfl ⟨(Nat.le_of_ble_eq_true rfl), (Nat.le_of_ble_eq_true rfl)⟩ (Nat.le_of_ble_eq_true rfl) ⟨(Nat.le_of_ble_eq_true rfl), (Nat.le_of_ble_eq_true rfl)⟩ ⟨(Nat.le_of_ble_eq_true rfl), (Nat.le_of_ble_eq_true rfl)⟩
                  | some p70 =>
                    rw [ep70] at h
                    dsimp only [zoX] at h
                    refine zr_callV1 F (k_XReader_numbers l D tA b sh _ ep70) zd_XReader_readNode_131 (zW_o hs68 (by decide)) rfl zs_XReader_160 rfl zq_XReader_numbers rfl rfl ⟨(Nat.le_of_ble_eq_true rfl), (Nat.le_of_ble_eq_true rfl)⟩ (Nat.le_of_ble_eq_true rfl) ⟨(Nat.le_of_ble_eq_true rfl), (Nat.le_of_ble_eq_true rfl)⟩ ?_
                    refine zr_pcn 134 rfl ?_
                    refine zr_pop F zd_XReader_readNode_134 rfl ?_
                    refine zr_aload_n F zd_XReader_readNode_135 rfl ?_
                    obtain ⟨le72, hs71, h⟩ := zoS_s h
                    obtain ⟨a73, ea73, h⟩ := zoB_s h
                    refine zr_get F 7 2 zd_XReader_readNode_136 (zW_o hs71 (by decide)) rfl (by decide) zw_50 rfl (by rfl) ?_
                    refine zr_tor ea73 ?_
                    refine zr_iconstv (v := 0) F zd_XReader_readNode_139 (by decide) ?_
                    refine zr_aload_n F zd_XReader_readNode_140 rfl ?_
                    obtain ⟨le75, hs74, h⟩ := zoS_s h
                    obtain ⟨a76, ea76, h⟩ := zoB_s h
                    refine zr_get F 3 4 zd_XReader_readNode_141 (zW_o hs74 (by decide)) rfl (by decide) zw_228 rfl (by rfl) ?_
                    refine zr_tor ea76 ?_
                    refine zr_bipushv (v := 6) F zd_XReader_readNode_144 (by decide) ?_
                    refine zr_iconstv (v := 3) F zd_XReader_readNode_146 (by decide) ?_
                    refine zr_pcn 147 rfl ?_
                    obtain ⟨le77, hs78, h⟩ := zoS_s h
                    obtain ⟨le79, hs80, h⟩ := zoS_s h
                    obtain ⟨hc81, h⟩ := zoT_s h
                    obtain ⟨mm82, emm82, h⟩ := zoL_s h
                    refine zr_copy F zd_XReader_readNode_147 zw_1202 zw_724 zw_723 zw_26 (zW_a0 hs78) (zW_a0 hs80) hc81.1 hc81.2.1 hc81.2.2.1 hc81.2.2.2.1 hc81.2.2.2.2 (Nat.le_of_ble_eq_true rfl) (Nat.le_of_ble_eq_true rfl) ?_
                    refine zr_norm (zW tA b sh mm82) _ (by rw [emm82]; exact zW_c hs80) rfl ?_
                    cases h
abbrev zb_XReader_readTrack : ByteArray := prog_8_method_9_code
def zy_XReader_readTrack : MethodName := ⟨"OrreryBox$Reader", "readTrack", "(LOrreryBox$Track;)V"⟩
theorem zc_XReader_readTrack : Cond.code zy_XReader_readTrack zb_XReader_readTrack 4 none ∈ gw := gw_t 1271 (by decide +kernel) rfl
theorem zq_XReader_readTrack : zy_XReader_readTrack.cls ≠ "java/lang/invoke/MethodHandle" ∧ zy_XReader_readTrack.cls ≠ "java/lang/invoke/VarHandle" ∧ (parseMethodDescriptor zy_XReader_readTrack.desc).map (fun d => d.parameters.length) = some 1 := by decide +kernel
theorem zd_XReader_readTrack_0 : decode zb_XReader_readTrack 0 = .ok (.aload_n 1, 1) := by decide +kernel
theorem zd_XReader_readTrack_1 : decode zb_XReader_readTrack 1 = .ok (.aload_n 0, 1) := by decide +kernel
theorem zd_XReader_readTrack_2 : decode zb_XReader_readTrack 2 = .ok (.ldc 236, 2) := by decide +kernel
theorem zd_XReader_readTrack_4 : decode zb_XReader_readTrack 4 = .ok (.iconst 0, 1) := by decide +kernel
theorem zd_XReader_readTrack_5 : decode zb_XReader_readTrack 5 = .ok (.aload_n 0, 1) := by decide +kernel
theorem zd_XReader_readTrack_6 : decode zb_XReader_readTrack 6 = .ok (.getfield 23, 3) := by decide +kernel
theorem zd_XReader_readTrack_9 : decode zb_XReader_readTrack 9 = .ok (.getfield 133, 3) := by decide +kernel
theorem zd_XReader_readTrack_12 : decode zb_XReader_readTrack 12 = .ok (.iconst 3, 1) := by decide +kernel
theorem zd_XReader_readTrack_13 : decode zb_XReader_readTrack 13 = .ok (.iaload, 1) := by decide +kernel
theorem zd_XReader_readTrack_14 : decode zb_XReader_readTrack 14 = .ok (.iconst 1, 1) := by decide +kernel
theorem zd_XReader_readTrack_15 : decode zb_XReader_readTrack 15 = .ok (.isub, 1) := by decide +kernel
theorem zd_XReader_readTrack_16 : decode zb_XReader_readTrack 16 = .ok (.invokevirtual 138, 3) := by decide +kernel
theorem zd_XReader_readTrack_19 : decode zb_XReader_readTrack 19 = .ok (.putfield 238, 3) := by decide +kernel
theorem zd_XReader_readTrack_22 : decode zb_XReader_readTrack 22 = .ok (.aload_n 0, 1) := by decide +kernel
theorem zd_XReader_readTrack_23 : decode zb_XReader_readTrack 23 = .ok (.bipush 44, 2) := by decide +kernel
theorem zd_XReader_readTrack_25 : decode zb_XReader_readTrack 25 = .ok (.invokevirtual 45, 3) := by decide +kernel
theorem zd_XReader_readTrack_28 : decode zb_XReader_readTrack 28 = .ok (.aload_n 1, 1) := by decide +kernel
theorem zd_XReader_readTrack_29 : decode zb_XReader_readTrack 29 = .ok (.aload_n 0, 1) := by decide +kernel
theorem zd_XReader_readTrack_30 : decode zb_XReader_readTrack 30 = .ok (.ldc 242, 2) := by decide +kernel
theorem zd_XReader_readTrack_32 : decode zb_XReader_readTrack 32 = .ok (.iconst 0, 1) := by decide +kernel
theorem zd_XReader_readTrack_33 : decode zb_XReader_readTrack 33 = .ok (.iconst 2, 1) := by decide +kernel
theorem zd_XReader_readTrack_34 : decode zb_XReader_readTrack 34 = .ok (.invokevirtual 138, 3) := by decide +kernel
theorem zd_XReader_readTrack_37 : decode zb_XReader_readTrack 37 = .ok (.putfield 244, 3) := by decide +kernel
theorem zd_XReader_readTrack_40 : decode zb_XReader_readTrack 40 = .ok (.aload_n 0, 1) := by decide +kernel
theorem zd_XReader_readTrack_41 : decode zb_XReader_readTrack 41 = .ok (.bipush 44, 2) := by decide +kernel
theorem zd_XReader_readTrack_43 : decode zb_XReader_readTrack 43 = .ok (.invokevirtual 45, 3) := by decide +kernel
theorem zd_XReader_readTrack_46 : decode zb_XReader_readTrack 46 = .ok (.aload_n 1, 1) := by decide +kernel
theorem zd_XReader_readTrack_47 : decode zb_XReader_readTrack 47 = .ok (.aload_n 0, 1) := by decide +kernel
theorem zd_XReader_readTrack_48 : decode zb_XReader_readTrack 48 = .ok (.ldc 246, 2) := by decide +kernel
theorem zd_XReader_readTrack_50 : decode zb_XReader_readTrack 50 = .ok (.iconst 0, 1) := by decide +kernel
theorem zd_XReader_readTrack_51 : decode zb_XReader_readTrack 51 = .ok (.iconst 2, 1) := by decide +kernel
theorem zd_XReader_readTrack_52 : decode zb_XReader_readTrack 52 = .ok (.invokevirtual 138, 3) := by decide +kernel
theorem zd_XReader_readTrack_55 : decode zb_XReader_readTrack 55 = .ok (.putfield 248, 3) := by decide +kernel
theorem zd_XReader_readTrack_58 : decode zb_XReader_readTrack 58 = .ok (.aload_n 0, 1) := by decide +kernel
theorem zd_XReader_readTrack_59 : decode zb_XReader_readTrack 59 = .ok (.bipush 44, 2) := by decide +kernel
theorem zd_XReader_readTrack_61 : decode zb_XReader_readTrack 61 = .ok (.invokevirtual 45, 3) := by decide +kernel
theorem zd_XReader_readTrack_64 : decode zb_XReader_readTrack 64 = .ok (.aload_n 1, 1) := by decide +kernel
theorem zd_XReader_readTrack_65 : decode zb_XReader_readTrack 65 = .ok (.aload_n 0, 1) := by decide +kernel
theorem zd_XReader_readTrack_66 : decode zb_XReader_readTrack 66 = .ok (.ldc 250, 2) := by decide +kernel
theorem zd_XReader_readTrack_68 : decode zb_XReader_readTrack 68 = .ok (.bipush 32, 2) := by decide +kernel
theorem zd_XReader_readTrack_70 : decode zb_XReader_readTrack 70 = .ok (.iconst 1, 1) := by decide +kernel
theorem zd_XReader_readTrack_71 : decode zb_XReader_readTrack 71 = .ok (.iconst 0, 1) := by decide +kernel
theorem zd_XReader_readTrack_72 : decode zb_XReader_readTrack 72 = .ok (.ldc 252, 2) := by decide +kernel
theorem zd_XReader_readTrack_74 : decode zb_XReader_readTrack 74 = .ok (.iconst 1, 1) := by decide +kernel
theorem zd_XReader_readTrack_75 : decode zb_XReader_readTrack 75 = .ok (.invokevirtual 160, 3) := by decide +kernel
theorem zd_XReader_readTrack_78 : decode zb_XReader_readTrack 78 = .ok (.putfield 253, 3) := by decide +kernel
theorem zd_XReader_readTrack_81 : decode zb_XReader_readTrack 81 = .ok (.aload_n 0, 1) := by decide +kernel
theorem zd_XReader_readTrack_82 : decode zb_XReader_readTrack 82 = .ok (.getfield 9, 3) := by decide +kernel
theorem zd_XReader_readTrack_85 : decode zb_XReader_readTrack 85 = .ok (.iconst 0, 1) := by decide +kernel
theorem zd_XReader_readTrack_86 : decode zb_XReader_readTrack 86 = .ok (.aload_n 1, 1) := by decide +kernel
theorem zd_XReader_readTrack_87 : decode zb_XReader_readTrack 87 = .ok (.getfield 256, 3) := by decide +kernel
theorem zd_XReader_readTrack_90 : decode zb_XReader_readTrack 90 = .ok (.iconst 0, 1) := by decide +kernel
theorem zd_XReader_readTrack_91 : decode zb_XReader_readTrack 91 = .ok (.aload_n 1, 1) := by decide +kernel
theorem zd_XReader_readTrack_92 : decode zb_XReader_readTrack 92 = .ok (.getfield 253, 3) := by decide +kernel
theorem zd_XReader_readTrack_95 : decode zb_XReader_readTrack 95 = .ok (.invokestatic 169, 3) := by decide +kernel
theorem zd_XReader_readTrack_98 : decode zb_XReader_readTrack 98 = .ok (.aload_n 0, 1) := by decide +kernel
theorem zd_XReader_readTrack_99 : decode zb_XReader_readTrack 99 = .ok (.bipush 44, 2) := by decide +kernel
theorem zd_XReader_readTrack_101 : decode zb_XReader_readTrack 101 = .ok (.invokevirtual 45, 3) := by decide +kernel
theorem zd_XReader_readTrack_104 : decode zb_XReader_readTrack 104 = .ok (.aload_n 1, 1) := by decide +kernel
theorem zd_XReader_readTrack_105 : decode zb_XReader_readTrack 105 = .ok (.getfield 244, 3) := by decide +kernel
theorem zd_XReader_readTrack_108 : decode zb_XReader_readTrack 108 = .ok (.invokestatic 258, 3) := by decide +kernel
theorem zd_XReader_readTrack_111 : decode zb_XReader_readTrack 111 = .ok (.istore_n 2, 1) := by decide +kernel
theorem zd_XReader_readTrack_112 : decode zb_XReader_readTrack 112 = .ok (.iconst 3, 1) := by decide +kernel
theorem zd_XReader_readTrack_113 : decode zb_XReader_readTrack 113 = .ok (.aload_n 1, 1) := by decide +kernel
theorem zd_XReader_readTrack_114 : decode zb_XReader_readTrack 114 = .ok (.getfield 253, 3) := by decide +kernel
theorem zd_XReader_readTrack_117 : decode zb_XReader_readTrack 117 = .ok (.imul, 1) := by decide +kernel
theorem zd_XReader_readTrack_118 : decode zb_XReader_readTrack 118 = .ok (.istore_n 3, 1) := by decide +kernel
theorem zd_XReader_readTrack_119 : decode zb_XReader_readTrack 119 = .ok (.aload_n 0, 1) := by decide +kernel
theorem zd_XReader_readTrack_120 : decode zb_XReader_readTrack 120 = .ok (.ldc_w 262, 3) := by decide +kernel
theorem zd_XReader_readTrack_123 : decode zb_XReader_readTrack 123 = .ok (.iload_n 3, 1) := by decide +kernel
theorem zd_XReader_readTrack_124 : decode zb_XReader_readTrack 124 = .ok (.iload_n 3, 1) := by decide +kernel
theorem zd_XReader_readTrack_125 : decode zb_XReader_readTrack 125 = .ok (.iload_n 2, 1) := by decide +kernel
theorem zd_XReader_readTrack_126 : decode zb_XReader_readTrack 126 = .ok (.ineg, 1) := by decide +kernel
theorem zd_XReader_readTrack_127 : decode zb_XReader_readTrack 127 = .ok (.iload_n 2, 1) := by decide +kernel
theorem zd_XReader_readTrack_128 : decode zb_XReader_readTrack 128 = .ok (.iconst 0, 1) := by decide +kernel
theorem zd_XReader_readTrack_129 : decode zb_XReader_readTrack 129 = .ok (.invokevirtual 160, 3) := by decide +kernel
theorem zd_XReader_readTrack_132 : decode zb_XReader_readTrack 132 = .ok (.pop, 1) := by decide +kernel
theorem zd_XReader_readTrack_133 : decode zb_XReader_readTrack 133 = .ok (.aload_n 0, 1) := by decide +kernel
theorem zd_XReader_readTrack_134 : decode zb_XReader_readTrack 134 = .ok (.getfield 9, 3) := by decide +kernel
theorem zd_XReader_readTrack_137 : decode zb_XReader_readTrack 137 = .ok (.iconst 0, 1) := by decide +kernel
theorem zd_XReader_readTrack_138 : decode zb_XReader_readTrack 138 = .ok (.aload_n 1, 1) := by decide +kernel
theorem zd_XReader_readTrack_139 : decode zb_XReader_readTrack 139 = .ok (.getfield 264, 3) := by decide +kernel
theorem zd_XReader_readTrack_142 : decode zb_XReader_readTrack 142 = .ok (.iconst 0, 1) := by decide +kernel
theorem zd_XReader_readTrack_143 : decode zb_XReader_readTrack 143 = .ok (.iload_n 3, 1) := by decide +kernel
theorem zd_XReader_readTrack_144 : decode zb_XReader_readTrack 144 = .ok (.invokestatic 169, 3) := by decide +kernel
theorem zd_XReader_readTrack_147 : decode zb_XReader_readTrack 147 = .ok (.return_, 1) := by decide +kernel
theorem zw_252 : (Jvm.Cond.fieldLink "OrreryBox$Reader" (238 : Nat) "OrreryBox$Track" "node" "I") ∈ gw := gw_t 252 (by decide +kernel) rfl
theorem zf_I_11_0 (b : Nat) (m : zMem) (k : Nat) (v : Int32) : (zfl b 11 m k).set 0 (.int v) = zfl b 11 (mI m k 0 v) k := by simp [zfl, mI, upd, vp_updL]
theorem zw_254 : (Jvm.Cond.fieldLink "OrreryBox$Reader" (244 : Nat) "OrreryBox$Track" "what" "I") ∈ gw := gw_t 254 (by decide +kernel) rfl
theorem zf_I_11_1 (b : Nat) (m : zMem) (k : Nat) (v : Int32) : (zfl b 11 m k).set 1 (.int v) = zfl b 11 (mI m k 1 v) k := by simp [zfl, mI, upd, vp_updL]
theorem zw_256 : (Jvm.Cond.fieldLink "OrreryBox$Reader" (248 : Nat) "OrreryBox$Track" "how" "I") ∈ gw := gw_t 256 (by decide +kernel) rfl
theorem zf_I_11_2 (b : Nat) (m : zMem) (k : Nat) (v : Int32) : (zfl b 11 m k).set 2 (.int v) = zfl b 11 (mI m k 2 v) k := by simp [zfl, mI, upd, vp_updL]
theorem zw_1276 : (Jvm.Cond.constant "OrreryBox$Reader" (252 : Nat) (1000000 : Int32)) ∈ gw := gw_t 1276 (by decide +kernel) rfl
theorem zw_258 : (Jvm.Cond.fieldLink "OrreryBox$Reader" (253 : Nat) "OrreryBox$Track" "keys" "I") ∈ gw := gw_t 258 (by decide +kernel) rfl
theorem zf_I_11_3 (b : Nat) (m : zMem) (k : Nat) (v : Int32) : (zfl b 11 m k).set 3 (.int v) = zfl b 11 (mI m k 3 v) k := by simp [zfl, mI, upd, vp_updL]
theorem zw_260 : (Jvm.Cond.fieldLink "OrreryBox$Reader" (256 : Nat) "OrreryBox$Track" "times" "[I") ∈ gw := gw_t 260 (by decide +kernel) rfl
theorem zw_1277 : (Jvm.Cond.methodLinkNest "OrreryBox$Reader" (258 : Nat) ({ cls := "OrreryBox", name := "reachOf", desc := "(I)I" } : Jvm.MethodName) "OrreryBox") ∈ gn := gn_t 1277 (by decide +kernel) rfl
theorem zs_XReader_258 : zwSN "OrreryBox$Reader" 258 zy_OB_reachOf "OrreryBox" zb_OB_reachOf 1 (some .int) := ⟨zw_1277, zw_591, zw_1, zc_OB_reachOf⟩
theorem zw_262 : (Jvm.Cond.fieldLink "OrreryBox$Reader" (264 : Nat) "OrreryBox$Track" "values" "[I") ∈ gw := gw_t 262 (by decide +kernel) rfl
def F_XReader_readTrack (sh : zSh) (mm : zMem) (o : Nat) (x0_ : Nat) : Option zMem := zoS (sh o) 7 (fun le2 => Option.bind (mm.2.2 o 7) (fun a3 => zoS (sh a3) 8 (fun le5 => Option.bind (mm.2.2 a3 0) (fun a6 => zoS (sh a6) 100 (fun le8 => if (3 : Int32) < 0 ∨ le8 ≤ (3 : Int32).toNatClampNeg then none else zoS (sh o) 7 (fun le11 => zoL ((mm.1 a6 (3 : Int32).toNatClampNeg) - 1) (fun x12 => Option.bind (F_XReader_number sh mm o 30 0 x12) (fun p13 => zoS (sh x0_) 11 (fun le15 => zoL (mI (p13.2) x0_ 0 (p13.1)) (fun mm16 => zoS (sh o) 7 (fun le18 => Option.bind (F_XReader_need sh mm16 o 44) (fun p19 => zoS (sh o) 7 (fun le21 => Option.bind (F_XReader_number sh p19 o 31 0 2) (fun p22 => zoS (sh x0_) 11 (fun le24 => zoL (mI (p22.2) x0_ 1 (p22.1)) (fun mm25 => zoS (sh o) 7 (fun le27 => Option.bind (F_XReader_need sh mm25 o 44) (fun p28 => zoS (sh o) 7 (fun le30 => Option.bind (F_XReader_number sh p28 o 32 0 2) (fun p31 => zoS (sh x0_) 11 (fun le33 => zoL (mI (p31.2) x0_ 2 (p31.1)) (fun mm34 => zoS (sh o) 7 (fun le36 => Option.bind (F_XReader_need sh mm34 o 44) (fun p37 => zoS (sh o) 7 (fun le39 => Option.bind (F_XReader_numbers sh p37 o 33 32 1 0 1000000 1) (fun p40 => zoS (sh x0_) 11 (fun le42 => zoL (mI (p40.2) x0_ 3 (p40.1)) (fun mm43 => zoS (sh o) 7 (fun le45 => Option.bind (mm43.2.2 o 2) (fun a46 => zoS (sh x0_) 11 (fun le48 => Option.bind (mm43.2.2 x0_ 4) (fun a49 => zoS (sh x0_) 11 (fun le51 => zoL (mm43.1 x0_ 3) (fun x52 => zoS (sh a46) 100 (fun le53 => zoS (sh a49) 100 (fun le55 => if ¬ (0 : Int32) < 0 ∧ ¬ (0 : Int32) < 0 ∧ ¬ (x52 : Int32) < 0 ∧ (0 : Int32).toNatClampNeg + (x52 : Int32).toNatClampNeg ≤ le53 ∧ (0 : Int32).toNatClampNeg + (x52 : Int32).toNatClampNeg ≤ le55 then zoL (mC mm43 a46 a49 (0 : Int32).toNatClampNeg (0 : Int32).toNatClampNeg (x52 : Int32).toNatClampNeg) (fun mm58 => zoS (sh o) 7 (fun le60 => Option.bind (F_XReader_need sh mm58 o 44) (fun p61 => zoS (sh x0_) 11 (fun le63 => zoL (sp_OB_reachOf (p61.1 x0_ 1)) (fun x65 => zoS (sh x0_) 11 (fun le67 => zoL (3 * (p61.1 x0_ 3)) (fun x68 => zoS (sh o) 7 (fun le70 => Option.bind (F_XReader_numbers sh p61 o 34 x68 x68 (-x65) x65 0) (fun p71 => zoS (sh o) 7 (fun le73 => Option.bind ((p71.2).2.2 o 2) (fun a74 => zoS (sh x0_) 11 (fun le76 => Option.bind ((p71.2).2.2 x0_ 5) (fun a77 => zoS (sh a74) 100 (fun le78 => zoS (sh a77) 100 (fun le80 => if ¬ (0 : Int32) < 0 ∧ ¬ (0 : Int32) < 0 ∧ ¬ (x68 : Int32) < 0 ∧ (0 : Int32).toNatClampNeg + (x68 : Int32).toNatClampNeg ≤ le78 ∧ (0 : Int32).toNatClampNeg + (x68 : Int32).toNatClampNeg ≤ le80 then zoL (mC (p71.2) a74 a77 (0 : Int32).toNatClampNeg (0 : Int32).toNatClampNeg (x68 : Int32).toNatClampNeg) (fun mm83 => some mm83) else none))))))))))))))) else none))))))))))))))))))))))))))))))))))))
set_option maxHeartbeats 4000000 in
set_option maxRecDepth 100000 in
theorem k_XReader_readTrack (l : Launch) (D : va_G) (tA : Nat → ClassId) (b : Nat) (sh : zSh) (n : Nat) {mm : zMem} {o : Nat} {x0_ : Nat} {r : zMem} (h : F_XReader_readTrack sh mm o x0_ = some r) : zM l D tA b zy_XReader_readTrack zb_XReader_readTrack 4 none 7 158 0 0 [.ref (b + o), .ref (b + x0_)] (zW tA b sh mm) n (zE none (zW tA b sh r) n) := by
  unfold F_XReader_readTrack at h
  refine zM_of (own := "OrreryBox$Reader") (plainFor_of_name (by decide)) rfl (Nat.le_of_ble_eq_true rfl) (fun p e s m below meth c F hr hin hH => ?_)
  refine zr_aload_n F zd_XReader_readTrack_0 rfl ?_
  refine zr_aload_n F zd_XReader_readTrack_1 rfl ?_
  refine zr_ldcS F 30 "node" zd_XReader_readTrack_2 (by decide +kernel) ?_
  refine zr_iconstv (v := 0) F zd_XReader_readTrack_4 (by decide) ?_
  refine zr_aload_n F zd_XReader_readTrack_5 rfl ?_
  obtain ⟨le2, hs1, h⟩ := zoS_s h
  obtain ⟨a3, ea3, h⟩ := zoB_s h
  refine zr_get F 7 7 zd_XReader_readTrack_6 (zW_o hs1 (by decide)) rfl (by decide) zw_55 rfl (by rfl) ?_
  refine zr_tor ea3 ?_
  obtain ⟨le5, hs4, h⟩ := zoS_s h
  obtain ⟨a6, ea6, h⟩ := zoB_s h
  refine zr_get F 8 0 zd_XReader_readTrack_9 (zW_o hs4 (by decide)) rfl (by decide) zw_284 rfl (by rfl) ?_
  refine zr_tor ea6 ?_
  refine zr_pcn 12 rfl ?_
  refine zr_iconstv (v := 3) F zd_XReader_readTrack_12 (by decide) ?_
  obtain ⟨le8, hs7, h⟩ := zoS_s h
  obtain ⟨hi9, h⟩ := zoI_s h
  refine zr_iald F zd_XReader_readTrack_13 (zW_a0 hs7) hi9 ?_
  refine zr_iconstv (v := 1) F zd_XReader_readTrack_14 (by decide) ?_
  refine zr_isub F zd_XReader_readTrack_15 ?_
  obtain ⟨le11, hs10, h⟩ := zoS_s h
  obtain ⟨x12, ex12, h⟩ := zoL_s h
  rw [← ex12]
  obtain ⟨p13, ep13, h⟩ := zoB_s h
  refine zr_callV1 F (k_XReader_number l D tA b sh _ ep13) zd_XReader_readTrack_16 (zW_o hs10 (by decide)) rfl zs_XReader_138 rfl zq_XReader_number rfl rfl ⟨(Nat.le_of_ble_eq_true rfl), (Nat.le_of_ble_eq_true rfl)⟩ (Nat.le_of_ble_eq_true rfl) ⟨(Nat.le_of_ble_eq_true rfl), (Nat.le_of_ble_eq_true rfl)⟩ ?_
  obtain ⟨le15, hs14, h⟩ := zoS_s h
  refine zr_put F 11 0 zd_XReader_readTrack_19 (zW_o hs14 (by decide)) rfl (by decide) zw_252 rfl rfl rfl rfl (by exact (Nat.le_of_ble_eq_true rfl)) ?_
  obtain ⟨mm16, emm16, h⟩ := zoL_s h
  refine zr_norm (zW tA b sh mm16) _ (by rw [emm16]; exact zW_pI (v := (p13.1)) hs14 (by decide) (zf_I_11_0 b _ _ _)) rfl ?_
  refine zr_aload_n F zd_XReader_readTrack_22 rfl ?_
  refine zr_bipushv (v := 44) F zd_XReader_readTrack_23 (by decide) ?_
  refine zr_pcn 25 rfl ?_
  obtain ⟨le18, hs17, h⟩ := zoS_s h
  obtain ⟨p19, ep19, h⟩ := zoB_s h
  refine zr_callV0 F (k_XReader_need l D tA b sh _ ep19) zd_XReader_readTrack_25 (zW_o hs17 (by decide)) rfl zs_XReader_45 rfl zq_XReader_need rfl rfl ⟨(Nat.le_of_ble_eq_true rfl), (Nat.le_of_ble_eq_true rfl)⟩ (Nat.le_of_ble_eq_true rfl) ⟨(Nat.le_of_ble_eq_true rfl), (Nat.le_of_ble_eq_true rfl)⟩ ?_
  refine zr_aload_n F zd_XReader_readTrack_28 rfl ?_
  refine zr_aload_n F zd_XReader_readTrack_29 rfl ?_
  refine zr_ldcS F 31 "what" zd_XReader_readTrack_30 (by decide +kernel) ?_
  refine zr_iconstv (v := 0) F zd_XReader_readTrack_32 (by decide) ?_
  refine zr_iconstv (v := 2) F zd_XReader_readTrack_33 (by decide) ?_
  obtain ⟨le21, hs20, h⟩ := zoS_s h
  obtain ⟨p22, ep22, h⟩ := zoB_s h
  refine zr_callV1 F (k_XReader_number l D tA b sh _ ep22) zd_XReader_readTrack_34 (zW_o hs20 (by decide)) rfl zs_XReader_138 rfl zq_XReader_number rfl rfl ⟨(Nat.le_of_ble_eq_true rfl), (Nat.le_of_ble_eq_true rfl)⟩ (Nat.le_of_ble_eq_true rfl) ⟨(Nat.le_of_ble_eq_true rfl), (Nat.le_of_ble_eq_true rfl)⟩ ?_
  obtain ⟨le24, hs23, h⟩ := zoS_s h
  refine zr_put F 11 1 zd_XReader_readTrack_37 (zW_o hs23 (by decide)) rfl (by decide) zw_254 rfl rfl rfl rfl (by exact (Nat.le_of_ble_eq_true rfl)) ?_
  obtain ⟨mm25, emm25, h⟩ := zoL_s h
  refine zr_norm (zW tA b sh mm25) _ (by rw [emm25]; exact zW_pI (v := (p22.1)) hs23 (by decide) (zf_I_11_1 b _ _ _)) rfl ?_
  refine zr_pcn 40 rfl ?_
  refine zr_aload_n F zd_XReader_readTrack_40 rfl ?_
  refine zr_bipushv (v := 44) F zd_XReader_readTrack_41 (by decide) ?_
  obtain ⟨le27, hs26, h⟩ := zoS_s h
  obtain ⟨p28, ep28, h⟩ := zoB_s h
  refine zr_callV0 F (k_XReader_need l D tA b sh _ ep28) zd_XReader_readTrack_43 (zW_o hs26 (by decide)) rfl zs_XReader_45 rfl zq_XReader_need rfl rfl ⟨(Nat.le_of_ble_eq_true rfl), (Nat.le_of_ble_eq_true rfl)⟩ (Nat.le_of_ble_eq_true rfl) ⟨(Nat.le_of_ble_eq_true rfl), (Nat.le_of_ble_eq_true rfl)⟩ ?_
  refine zr_aload_n F zd_XReader_readTrack_46 rfl ?_
  refine zr_aload_n F zd_XReader_readTrack_47 rfl ?_
  refine zr_ldcS F 32 "how" zd_XReader_readTrack_48 (by decide +kernel) ?_
  refine zr_iconstv (v := 0) F zd_XReader_readTrack_50 (by decide) ?_
  refine zr_iconstv (v := 2) F zd_XReader_readTrack_51 (by decide) ?_
  refine zr_pcn 52 rfl ?_
  obtain ⟨le30, hs29, h⟩ := zoS_s h
  obtain ⟨p31, ep31, h⟩ := zoB_s h
  refine zr_callV1 F (k_XReader_number l D tA b sh _ ep31) zd_XReader_readTrack_52 (zW_o hs29 (by decide)) rfl zs_XReader_138 rfl zq_XReader_number rfl rfl ⟨(Nat.le_of_ble_eq_true rfl), (Nat.le_of_ble_eq_true rfl)⟩ (Nat.le_of_ble_eq_true rfl) ⟨(Nat.le_of_ble_eq_true rfl), (Nat.le_of_ble_eq_true rfl)⟩ ?_
  obtain ⟨le33, hs32, h⟩ := zoS_s h
  refine zr_put F 11 2 zd_XReader_readTrack_55 (zW_o hs32 (by decide)) rfl (by decide) zw_256 rfl rfl rfl rfl (by exact (Nat.le_of_ble_eq_true rfl)) ?_
  obtain ⟨mm34, emm34, h⟩ := zoL_s h
  refine zr_norm (zW tA b sh mm34) _ (by rw [emm34]; exact zW_pI (v := (p31.1)) hs32 (by decide) (zf_I_11_2 b _ _ _)) rfl ?_
  refine zr_aload_n F zd_XReader_readTrack_58 rfl ?_
  refine zr_bipushv (v := 44) F zd_XReader_readTrack_59 (by decide) ?_
  obtain ⟨le36, hs35, h⟩ := zoS_s h
  obtain ⟨p37, ep37, h⟩ := zoB_s h
  refine zr_callV0 F (k_XReader_need l D tA b sh _ ep37) zd_XReader_readTrack_61 (zW_o hs35 (by decide)) rfl zs_XReader_45 rfl zq_XReader_need rfl rfl ⟨(Nat.le_of_ble_eq_true rfl), (Nat.le_of_ble_eq_true rfl)⟩ (Nat.le_of_ble_eq_true rfl) ⟨(Nat.le_of_ble_eq_true rfl), (Nat.le_of_ble_eq_true rfl)⟩ ?_
  refine zr_aload_n F zd_XReader_readTrack_64 rfl ?_
  refine zr_aload_n F zd_XReader_readTrack_65 rfl ?_
  refine zr_ldcS F 33 "times" zd_XReader_readTrack_66 (by decide +kernel) ?_
  refine zr_pcn 68 rfl ?_
  refine zr_bipushv (v := 32) F zd_XReader_readTrack_68 (by decide) ?_
  refine zr_iconstv (v := 1) F zd_XReader_readTrack_70 (by decide) ?_
  refine zr_iconstv (v := 0) F zd_XReader_readTrack_71 (by decide) ?_
  refine zr_ldc F zd_XReader_readTrack_72 zw_1276 ?_
  refine zr_iconstv (v := 1) F zd_XReader_readTrack_74 (by decide) ?_
  obtain ⟨le39, hs38, h⟩ := zoS_s h
  obtain ⟨p40, ep40, h⟩ := zoB_s h
  refine zr_callV1 F (k_XReader_numbers l D tA b sh _ ep40) zd_XReader_readTrack_75 (zW_o hs38 (by decide)) rfl zs_XReader_160 rfl zq_XReader_numbers rfl rfl ⟨(Nat.le_of_ble_eq_true rfl), (Nat.le_of_ble_eq_true rfl)⟩ (Nat.le_of_ble_eq_true rfl) ⟨(Nat.le_of_ble_eq_true rfl), (Nat.le_of_ble_eq_true rfl)⟩ ?_
  obtain ⟨le42, hs41, h⟩ := zoS_s h
  refine zr_put F 11 3 zd_XReader_readTrack_78 (zW_o hs41 (by decide)) rfl (by decide) zw_258 rfl rfl rfl rfl (by exact (Nat.le_of_ble_eq_true rfl)) ?_
  obtain ⟨mm43, emm43, h⟩ := zoL_s h
  refine zr_norm (zW tA b sh mm43) _ (by rw [emm43]; exact zW_pI (v := (p40.1)) hs41 (by decide) (zf_I_11_3 b _ _ _)) rfl ?_
  refine zr_aload_n F zd_XReader_readTrack_81 rfl ?_
  refine zr_pcn 82 rfl ?_
  obtain ⟨le45, hs44, h⟩ := zoS_s h
  obtain ⟨a46, ea46, h⟩ := zoB_s h
  refine zr_get F 7 2 zd_XReader_readTrack_82 (zW_o hs44 (by decide)) rfl (by decide) zw_50 rfl (by rfl) ?_
  refine zr_tor ea46 ?_
  refine zr_iconstv (v := 0) F zd_XReader_readTrack_85 (by decide) ?_
  refine zr_aload_n F zd_XReader_readTrack_86 rfl ?_
  obtain ⟨le48, hs47, h⟩ := zoS_s h
  obtain ⟨a49, ea49, h⟩ := zoB_s h
  refine zr_get F 11 4 zd_XReader_readTrack_87 (zW_o hs47 (by decide)) rfl (by decide) zw_260 rfl (by rfl) ?_
  refine zr_tor ea49 ?_
  refine zr_iconstv (v := 0) F zd_XReader_readTrack_90 (by decide) ?_
  refine zr_aload_n F zd_XReader_readTrack_91 rfl ?_
  obtain ⟨le51, hs50, h⟩ := zoS_s h
  refine zr_get F 11 3 zd_XReader_readTrack_92 (zW_o hs50 (by decide)) rfl (by decide) zw_258 rfl (by rfl) ?_
  obtain ⟨x52, ex52, h⟩ := zoL_s h
  rw [← ex52]
  obtain ⟨le53, hs54, h⟩ := zoS_s h
  obtain ⟨le55, hs56, h⟩ := zoS_s h
  obtain ⟨hc57, h⟩ := zoT_s h
  obtain ⟨mm58, emm58, h⟩ := zoL_s h
  refine zr_copy F zd_XReader_readTrack_95 zw_1202 zw_724 zw_723 zw_26 (zW_a0 hs54) (zW_a0 hs56) hc57.1 hc57.2.1 hc57.2.2.1 hc57.2.2.2.1 hc57.2.2.2.2 (Nat.le_of_ble_eq_true rfl) (Nat.le_of_ble_eq_true rfl) ?_
  refine zr_norm (zW tA b sh mm58) _ (by rw [emm58]; exact zW_c hs56) rfl ?_
  refine zr_pcn 98 rfl ?_
  refine zr_aload_n F zd_XReader_readTrack_98 rfl ?_
  refine zr_bipushv (v := 44) F zd_XReader_readTrack_99 (by decide) ?_
  obtain ⟨le60, hs59, h⟩ := zoS_s h
  obtain ⟨p61, ep61, h⟩ := zoB_s h
  refine zr_callV0 F (k_XReader_need l D tA b sh _ ep61) zd_XReader_readTrack_101 (zW_o hs59 (by decide)) rfl zs_XReader_45 rfl zq_XReader_need rfl rfl ⟨(Nat.le_of_ble_eq_true rfl), (Nat.le_of_ble_eq_true rfl)⟩ (Nat.le_of_ble_eq_true rfl) ⟨(Nat.le_of_ble_eq_true rfl), (Nat.le_of_ble_eq_true rfl)⟩ ?_
  refine zr_aload_n F zd_XReader_readTrack_104 rfl ?_
  obtain ⟨le63, hs62, h⟩ := zoS_s h
  refine zr_get F 11 1 zd_XReader_readTrack_105 (zW_o hs62 (by decide)) rfl (by decide) zw_254 rfl (by rfl) ?_
  refine zr_callSN1 F (c_OB_reachOf l D tA b _ _ (p61.1 x0_ 1)) zd_XReader_readTrack_108 zs_XReader_258 zq_OB_reachOf rfl rfl ⟨(Nat.le_of_ble_eq_true rfl), (Nat.le_of_ble_eq_true rfl)⟩ (Nat.le_of_ble_eq_true rfl) ⟨(Nat.le_of_ble_eq_true rfl), (Nat.le_of_ble_eq_true rfl)⟩ ?_
  obtain ⟨x65, ex65, h⟩ := zoL_s h
  rw [← ex65]
  refine zr_istore_n F zd_XReader_readTrack_111 (by decide) ?_
  refine zr_iconstv (v := 3) F zd_XReader_readTrack_112 (by decide) ?_
  refine zr_pcn 113 rfl ?_
  refine zr_aload_n F zd_XReader_readTrack_113 rfl ?_
  obtain ⟨le67, hs66, h⟩ := zoS_s h
  refine zr_get F 11 3 zd_XReader_readTrack_114 (zW_o hs66 (by decide)) rfl (by decide) zw_258 rfl (by rfl) ?_
  refine zr_imul F zd_XReader_readTrack_117 ?_
  obtain ⟨x68, ex68, h⟩ := zoL_s h
  rw [← ex68]
  refine zr_istore_n F zd_XReader_readTrack_118 (by decide) ?_
  refine zr_aload_n F zd_XReader_readTrack_119 rfl ?_
  refine zr_ldcSW F 34 "values" zd_XReader_readTrack_120 (by decide +kernel) ?_
  refine zr_iload_n F zd_XReader_readTrack_123 rfl ?_
  refine zr_iload_n F zd_XReader_readTrack_124 rfl ?_
  refine zr_pcn 125 rfl ?_
  refine zr_iload_n F zd_XReader_readTrack_125 rfl ?_
  refine zr_ineg F zd_XReader_readTrack_126 ?_
  refine zr_iload_n F zd_XReader_readTrack_127 rfl ?_
  refine zr_iconstv (v := 0) F zd_XReader_readTrack_128 (by decide) ?_
  obtain ⟨le70, hs69, h⟩ := zoS_s h
  obtain ⟨p71, ep71, h⟩ := zoB_s h
  refine zr_callV1 F (k_XReader_numbers l D tA b sh _ ep71) zd_XReader_readTrack_129 (zW_o hs69 (by decide)) rfl zs_XReader_160 rfl zq_XReader_numbers rfl rfl ⟨(Nat.le_of_ble_eq_true rfl), (Nat.le_of_ble_eq_true rfl)⟩ (Nat.le_of_ble_eq_true rfl) ⟨(Nat.le_of_ble_eq_true rfl), (Nat.le_of_ble_eq_true rfl)⟩ ?_
  refine zr_pop F zd_XReader_readTrack_132 rfl ?_
  refine zr_aload_n F zd_XReader_readTrack_133 rfl ?_
  obtain ⟨le73, hs72, h⟩ := zoS_s h
  obtain ⟨a74, ea74, h⟩ := zoB_s h
  refine zr_get F 7 2 zd_XReader_readTrack_134 (zW_o hs72 (by decide)) rfl (by decide) zw_50 rfl (by rfl) ?_
  refine zr_tor ea74 ?_
  refine zr_pcn 137 rfl ?_
  refine zr_iconstv (v := 0) F zd_XReader_readTrack_137 (by decide) ?_
  refine zr_aload_n F zd_XReader_readTrack_138 rfl ?_
  obtain ⟨le76, hs75, h⟩ := zoS_s h
  obtain ⟨a77, ea77, h⟩ := zoB_s h
  refine zr_get F 11 5 zd_XReader_readTrack_139 (zW_o hs75 (by decide)) rfl (by decide) zw_262 rfl (by rfl) ?_
  refine zr_tor ea77 ?_
  refine zr_iconstv (v := 0) F zd_XReader_readTrack_142 (by decide) ?_
  refine zr_iload_n F zd_XReader_readTrack_143 rfl ?_
  obtain ⟨le78, hs79, h⟩ := zoS_s h
  obtain ⟨le80, hs81, h⟩ := zoS_s h
  obtain ⟨hc82, h⟩ := zoT_s h
  obtain ⟨mm83, emm83, h⟩ := zoL_s h
  refine zr_copy F zd_XReader_readTrack_144 zw_1202 zw_724 zw_723 zw_26 (zW_a0 hs79) (zW_a0 hs81) hc82.1 hc82.2.1 hc82.2.2.1 hc82.2.2.2.1 hc82.2.2.2.2 (Nat.le_of_ble_eq_true rfl) (Nat.le_of_ble_eq_true rfl) ?_
  refine zr_norm (zW tA b sh mm83) _ (by rw [emm83]; exact zW_c hs81) rfl ?_
  obtain rfl := Option.some.inj h
  exact zr_vret F hr zd_XReader_readTrack_147 (Nat.le_of_ble_eq_true rfl) (Nat.le_of_ble_eq_true rfl) ⟨rfl, rfl, rfl⟩
def T_XReader_readTrack (sh : zSh) (mm : zMem) (o : Nat) (x0_ : Nat) : Option zMem := zoS (sh o) 7 (fun le2 => Option.bind (mm.2.2 o 7) (fun a3 => zoS (sh a3) 8 (fun le5 => Option.bind (mm.2.2 a3 0) (fun a6 => zoS (sh a6) 100 (fun le8 => if (3 : Int32) < 0 ∨ le8 ≤ (3 : Int32).toNatClampNeg then none else zoS (sh o) 7 (fun le11 => zoL ((mm.1 a6 (3 : Int32).toNatClampNeg) - 1) (fun x12 => zoX (F_XReader_number sh mm o 30 0 x12) (T_XReader_number sh mm o 30 0 x12) (fun p13 => zoS (sh x0_) 11 (fun le15 => zoL (mI (p13.2) x0_ 0 (p13.1)) (fun mm16 => zoS (sh o) 7 (fun le18 => zoX (F_XReader_need sh mm16 o 44) (T_XReader_need sh mm16 o 44) (fun p19 => zoS (sh o) 7 (fun le21 => zoX (F_XReader_number sh p19 o 31 0 2) (T_XReader_number sh p19 o 31 0 2) (fun p22 => zoS (sh x0_) 11 (fun le24 => zoL (mI (p22.2) x0_ 1 (p22.1)) (fun mm25 => zoS (sh o) 7 (fun le27 => zoX (F_XReader_need sh mm25 o 44) (T_XReader_need sh mm25 o 44) (fun p28 => zoS (sh o) 7 (fun le30 => zoX (F_XReader_number sh p28 o 32 0 2) (T_XReader_number sh p28 o 32 0 2) (fun p31 => zoS (sh x0_) 11 (fun le33 => zoL (mI (p31.2) x0_ 2 (p31.1)) (fun mm34 => zoS (sh o) 7 (fun le36 => zoX (F_XReader_need sh mm34 o 44) (T_XReader_need sh mm34 o 44) (fun p37 => zoS (sh o) 7 (fun le39 => zoX (F_XReader_numbers sh p37 o 33 32 1 0 1000000 1) (T_XReader_numbers sh p37 o 33 32 1 0 1000000 1) (fun p40 => zoS (sh x0_) 11 (fun le42 => zoL (mI (p40.2) x0_ 3 (p40.1)) (fun mm43 => zoS (sh o) 7 (fun le45 => Option.bind (mm43.2.2 o 2) (fun a46 => zoS (sh x0_) 11 (fun le48 => Option.bind (mm43.2.2 x0_ 4) (fun a49 => zoS (sh x0_) 11 (fun le51 => zoL (mm43.1 x0_ 3) (fun x52 => zoS (sh a46) 100 (fun le53 => zoS (sh a49) 100 (fun le55 => if ¬ (0 : Int32) < 0 ∧ ¬ (0 : Int32) < 0 ∧ ¬ (x52 : Int32) < 0 ∧ (0 : Int32).toNatClampNeg + (x52 : Int32).toNatClampNeg ≤ le53 ∧ (0 : Int32).toNatClampNeg + (x52 : Int32).toNatClampNeg ≤ le55 then zoL (mC mm43 a46 a49 (0 : Int32).toNatClampNeg (0 : Int32).toNatClampNeg (x52 : Int32).toNatClampNeg) (fun mm58 => zoS (sh o) 7 (fun le60 => zoX (F_XReader_need sh mm58 o 44) (T_XReader_need sh mm58 o 44) (fun p61 => zoS (sh x0_) 11 (fun le63 => zoL (sp_OB_reachOf (p61.1 x0_ 1)) (fun x65 => zoS (sh x0_) 11 (fun le67 => zoL (3 * (p61.1 x0_ 3)) (fun x68 => zoS (sh o) 7 (fun le70 => zoX (F_XReader_numbers sh p61 o 34 x68 x68 (-x65) x65 0) (T_XReader_numbers sh p61 o 34 x68 x68 (-x65) x65 0) (fun p71 => zoS (sh o) 7 (fun le73 => Option.bind ((p71.2).2.2 o 2) (fun a74 => zoS (sh x0_) 11 (fun le76 => Option.bind ((p71.2).2.2 x0_ 5) (fun a77 => zoS (sh a74) 100 (fun le78 => zoS (sh a77) 100 (fun le80 => if ¬ (0 : Int32) < 0 ∧ ¬ (0 : Int32) < 0 ∧ ¬ (x68 : Int32) < 0 ∧ (0 : Int32).toNatClampNeg + (x68 : Int32).toNatClampNeg ≤ le78 ∧ (0 : Int32).toNatClampNeg + (x68 : Int32).toNatClampNeg ≤ le80 then zoL (mC (p71.2) a74 a77 (0 : Int32).toNatClampNeg (0 : Int32).toNatClampNeg (x68 : Int32).toNatClampNeg) (fun mm83 => none) else none))))))))))))))) else none))))))))))))))))))))))))))))))))))))
set_option maxHeartbeats 4000000 in
set_option maxRecDepth 100000 in
theorem kT_XReader_readTrack (l : Launch) (D : va_G) (tA : Nat → ClassId) (b : Nat) (sh : zSh) (n : Nat) (hl : l.stackTraces = false) {mm : zMem} {o : Nat} {x0_ : Nat} {r : zMem} (h : T_XReader_readTrack sh mm o x0_ = some r) : zMT l D tA b zy_XReader_readTrack zb_XReader_readTrack 4 none 9 166 1 6 [.ref (b + o), .ref (b + x0_)] (zW tA b sh mm) n "java/lang/IllegalArgumentException" (zW tA b sh r) (n + 1) := by
  unfold T_XReader_readTrack at h
  refine zMT_of (own := "OrreryBox$Reader") (plainFor_of_name (by decide)) rfl (Nat.le_of_ble_eq_true rfl) (fun p e s m below meth c F hno hH => ?_)
  refine zr_aload_n F zd_XReader_readTrack_0 rfl ?_
  refine zr_aload_n F zd_XReader_readTrack_1 rfl ?_
  refine zr_ldcS F 30 "node" zd_XReader_readTrack_2 (by decide +kernel) ?_
  refine zr_iconstv (v := 0) F zd_XReader_readTrack_4 (by decide) ?_
  refine zr_aload_n F zd_XReader_readTrack_5 rfl ?_
  obtain ⟨le2, hs1, h⟩ := zoS_s h
  obtain ⟨a3, ea3, h⟩ := zoB_s h
  refine zr_get F 7 7 zd_XReader_readTrack_6 (zW_o hs1 (by decide)) rfl (by decide) zw_55 rfl (by rfl) ?_
  refine zr_tor ea3 ?_
  obtain ⟨le5, hs4, h⟩ := zoS_s h
  obtain ⟨a6, ea6, h⟩ := zoB_s h
  refine zr_get F 8 0 zd_XReader_readTrack_9 (zW_o hs4 (by decide)) rfl (by decide) zw_284 rfl (by rfl) ?_
  refine zr_tor ea6 ?_
  refine zr_pcn 12 rfl ?_
  refine zr_iconstv (v := 3) F zd_XReader_readTrack_12 (by decide) ?_
  obtain ⟨le8, hs7, h⟩ := zoS_s h
  obtain ⟨hi9, h⟩ := zoI_s h
  refine zr_iald F zd_XReader_readTrack_13 (zW_a0 hs7) hi9 ?_
  refine zr_iconstv (v := 1) F zd_XReader_readTrack_14 (by decide) ?_
  refine zr_isub F zd_XReader_readTrack_15 ?_
  obtain ⟨le11, hs10, h⟩ := zoS_s h
  obtain ⟨x12, ex12, h⟩ := zoL_s h
  rw [← ex12]
  cases ep13 : F_XReader_number sh mm o 30 0 x12 with
  | none =>
    rw [ep13] at h
    dsimp only [zoX] at h
    exact zr_thrV F hno (kT_XReader_number l D tA b sh _ hl h) zd_XReader_readTrack_16 (zW_o hs10 (by decide)) rfl zs_XReader_138 rfl zq_XReader_number rfl rfl ⟨(Nat.le_of_ble_eq_true rfl), (Nat.le_of_ble_eq_true rfl)⟩ (Nat.le_of_ble_eq_true rfl) ⟨(Nat.le_of_ble_eq_true rfl), (Nat.le_of_ble_eq_true rfl)⟩ ⟨(Nat.le_of_ble_eq_true rfl), (Nat.le_of_ble_eq_true rfl)⟩
  | some p13 =>
    rw [ep13] at h
    dsimp only [zoX] at h
    refine zr_callV1 F (k_XReader_number l D tA b sh _ ep13) zd_XReader_readTrack_16 (zW_o hs10 (by decide)) rfl zs_XReader_138 rfl zq_XReader_number rfl rfl ⟨(Nat.le_of_ble_eq_true rfl), (Nat.le_of_ble_eq_true rfl)⟩ (Nat.le_of_ble_eq_true rfl) ⟨(Nat.le_of_ble_eq_true rfl), (Nat.le_of_ble_eq_true rfl)⟩ ?_
    obtain ⟨le15, hs14, h⟩ := zoS_s h
    refine zr_put F 11 0 zd_XReader_readTrack_19 (zW_o hs14 (by decide)) rfl (by decide) zw_252 rfl rfl rfl rfl (by exact (Nat.le_of_ble_eq_true rfl)) ?_
    obtain ⟨mm16, emm16, h⟩ := zoL_s h
    refine zr_norm (zW tA b sh mm16) _ (by rw [emm16]; exact zW_pI (v := (p13.1)) hs14 (by decide) (zf_I_11_0 b _ _ _)) rfl ?_
    refine zr_aload_n F zd_XReader_readTrack_22 rfl ?_
    refine zr_bipushv (v := 44) F zd_XReader_readTrack_23 (by decide) ?_
    refine zr_pcn 25 rfl ?_
    obtain ⟨le18, hs17, h⟩ := zoS_s h
    cases ep19 : F_XReader_need sh mm16 o 44 with
    | none =>
      rw [ep19] at h
      dsimp only [zoX] at h
      exact zr_thrV F hno (kT_XReader_need l D tA b sh _ hl h) zd_XReader_readTrack_25 (zW_o hs17 (by decide)) rfl zs_XReader_45 rfl zq_XReader_need rfl rfl ⟨(Nat.le_of_ble_eq_true rfl), (Nat.le_of_ble_eq_true rfl)⟩ (Nat.le_of_ble_eq_true rfl) ⟨(Nat.le_of_ble_eq_true rfl), (Nat.le_of_ble_eq_true rfl)⟩ ⟨(Nat.le_of_ble_eq_true rfl), (Nat.le_of_ble_eq_true rfl)⟩
    | some p19 =>
      rw [ep19] at h
      dsimp only [zoX] at h
      refine zr_callV0 F (k_XReader_need l D tA b sh _ ep19) zd_XReader_readTrack_25 (zW_o hs17 (by decide)) rfl zs_XReader_45 rfl zq_XReader_need rfl rfl ⟨(Nat.le_of_ble_eq_true rfl), (Nat.le_of_ble_eq_true rfl)⟩ (Nat.le_of_ble_eq_true rfl) ⟨(Nat.le_of_ble_eq_true rfl), (Nat.le_of_ble_eq_true rfl)⟩ ?_
      refine zr_aload_n F zd_XReader_readTrack_28 rfl ?_
      refine zr_aload_n F zd_XReader_readTrack_29 rfl ?_
      refine zr_ldcS F 31 "what" zd_XReader_readTrack_30 (by decide +kernel) ?_
      refine zr_iconstv (v := 0) F zd_XReader_readTrack_32 (by decide) ?_
      refine zr_iconstv (v := 2) F zd_XReader_readTrack_33 (by decide) ?_
      obtain ⟨le21, hs20, h⟩ := zoS_s h
      cases ep22 : F_XReader_number sh p19 o 31 0 2 with
      | none =>
        rw [ep22] at h
        dsimp only [zoX] at h
        exact zr_thrV F hno (kT_XReader_number l D tA b sh _ hl h) zd_XReader_readTrack_34 (zW_o hs20 (by decide)) rfl zs_XReader_138 rfl zq_XReader_number rfl rfl ⟨(Nat.le_of_ble_eq_true rfl), (Nat.le_of_ble_eq_true rfl)⟩ (Nat.le_of_ble_eq_true rfl) ⟨(Nat.le_of_ble_eq_true rfl), (Nat.le_of_ble_eq_true rfl)⟩ ⟨(Nat.le_of_ble_eq_true rfl), (Nat.le_of_ble_eq_true rfl)⟩
      | some p22 =>
        rw [ep22] at h
        dsimp only [zoX] at h
        refine zr_callV1 F (k_XReader_number l D tA b sh _ ep22) zd_XReader_readTrack_34 (zW_o hs20 (by decide)) rfl zs_XReader_138 rfl zq_XReader_number rfl rfl ⟨(Nat.le_of_ble_eq_true rfl), (Nat.le_of_ble_eq_true rfl)⟩ (Nat.le_of_ble_eq_true rfl) ⟨(Nat.le_of_ble_eq_true rfl), (Nat.le_of_ble_eq_true rfl)⟩ ?_
        obtain ⟨le24, hs23, h⟩ := zoS_s h
        refine zr_put F 11 1 zd_XReader_readTrack_37 (zW_o hs23 (by decide)) rfl (by decide) zw_254 rfl rfl rfl rfl (by exact (Nat.le_of_ble_eq_true rfl)) ?_
        obtain ⟨mm25, emm25, h⟩ := zoL_s h
        refine zr_norm (zW tA b sh mm25) _ (by rw [emm25]; exact zW_pI (v := (p22.1)) hs23 (by decide) (zf_I_11_1 b _ _ _)) rfl ?_
        refine zr_pcn 40 rfl ?_
        refine zr_aload_n F zd_XReader_readTrack_40 rfl ?_
        refine zr_bipushv (v := 44) F zd_XReader_readTrack_41 (by decide) ?_
        obtain ⟨le27, hs26, h⟩ := zoS_s h
        cases ep28 : F_XReader_need sh mm25 o 44 with
        | none =>
          rw [ep28] at h
          dsimp only [zoX] at h
          exact zr_thrV F hno (kT_XReader_need l D tA b sh _ hl h) zd_XReader_readTrack_43 (zW_o hs26 (by decide)) rfl zs_XReader_45 rfl zq_XReader_need rfl rfl ⟨(Nat.le_of_ble_eq_true rfl), (Nat.le_of_ble_eq_true rfl)⟩ (Nat.le_of_ble_eq_true rfl) ⟨(Nat.le_of_ble_eq_true rfl), (Nat.le_of_ble_eq_true rfl)⟩ ⟨(Nat.le_of_ble_eq_true rfl), (Nat.le_of_ble_eq_true rfl)⟩
        | some p28 =>
          rw [ep28] at h
          dsimp only [zoX] at h
          refine zr_callV0 F (k_XReader_need l D tA b sh _ ep28) zd_XReader_readTrack_43 (zW_o hs26 (by decide)) rfl zs_XReader_45 rfl zq_XReader_need rfl rfl ⟨(Nat.le_of_ble_eq_true rfl), (Nat.le_of_ble_eq_true rfl)⟩ (Nat.le_of_ble_eq_true rfl) ⟨(Nat.le_of_ble_eq_true rfl), (Nat.le_of_ble_eq_true rfl)⟩ ?_
          refine zr_aload_n F zd_XReader_readTrack_46 rfl ?_
          refine zr_aload_n F zd_XReader_readTrack_47 rfl ?_
          refine zr_ldcS F 32 "how" zd_XReader_readTrack_48 (by decide +kernel) ?_
          refine zr_iconstv (v := 0) F zd_XReader_readTrack_50 (by decide) ?_
          refine zr_iconstv (v := 2) F zd_XReader_readTrack_51 (by decide) ?_
          refine zr_pcn 52 rfl ?_
          obtain ⟨le30, hs29, h⟩ := zoS_s h
          cases ep31 : F_XReader_number sh p28 o 32 0 2 with
          | none =>
            rw [ep31] at h
            dsimp only [zoX] at h
            exact zr_thrV F hno (kT_XReader_number l D tA b sh _ hl h) zd_XReader_readTrack_52 (zW_o hs29 (by decide)) rfl zs_XReader_138 rfl zq_XReader_number rfl rfl ⟨(Nat.le_of_ble_eq_true rfl), (Nat.le_of_ble_eq_true rfl)⟩ (Nat.le_of_ble_eq_true rfl) ⟨(Nat.le_of_ble_eq_true rfl), (Nat.le_of_ble_eq_true rfl)⟩ ⟨(Nat.le_of_ble_eq_true rfl), (Nat.le_of_ble_eq_true rfl)⟩
          | some p31 =>
            rw [ep31] at h
            dsimp only [zoX] at h
            refine zr_callV1 F (k_XReader_number l D tA b sh _ ep31) zd_XReader_readTrack_52 (zW_o hs29 (by decide)) rfl zs_XReader_138 rfl zq_XReader_number rfl rfl ⟨(Nat.le_of_ble_eq_true rfl), (Nat.le_of_ble_eq_true rfl)⟩ (Nat.le_of_ble_eq_true rfl) ⟨(Nat.le_of_ble_eq_true rfl), (Nat.le_of_ble_eq_true rfl)⟩ ?_
            obtain ⟨le33, hs32, h⟩ := zoS_s h
            refine zr_put F 11 2 zd_XReader_readTrack_55 (zW_o hs32 (by decide)) rfl (by decide) zw_256 rfl rfl rfl rfl (by exact (Nat.le_of_ble_eq_true rfl)) ?_
            obtain ⟨mm34, emm34, h⟩ := zoL_s h
            refine zr_norm (zW tA b sh mm34) _ (by rw [emm34]; exact zW_pI (v := (p31.1)) hs32 (by decide) (zf_I_11_2 b _ _ _)) rfl ?_
            refine zr_aload_n F zd_XReader_readTrack_58 rfl ?_
            refine zr_bipushv (v := 44) F zd_XReader_readTrack_59 (by decide) ?_
            obtain ⟨le36, hs35, h⟩ := zoS_s h
            cases ep37 : F_XReader_need sh mm34 o 44 with
            | none =>
              rw [ep37] at h
              dsimp only [zoX] at h
              exact zr_thrV F hno (kT_XReader_need l D tA b sh _ hl h) zd_XReader_readTrack_61 (zW_o hs35 (by decide)) rfl zs_XReader_45 rfl zq_XReader_need rfl rfl ⟨(Nat.le_of_ble_eq_true rfl), (Nat.le_of_ble_eq_true rfl)⟩ (Nat.le_of_ble_eq_true rfl) ⟨(Nat.le_of_ble_eq_true rfl), (Nat.le_of_ble_eq_true rfl)⟩ ⟨(Nat.le_of_ble_eq_true rfl), (Nat.le_of_ble_eq_true rfl)⟩
            | some p37 =>
              rw [ep37] at h
              dsimp only [zoX] at h
              refine zr_callV0 F (k_XReader_need l D tA b sh _ ep37) zd_XReader_readTrack_61 (zW_o hs35 (by decide)) rfl zs_XReader_45 rfl zq_XReader_need rfl rfl ⟨(Nat.le_of_ble_eq_true rfl), (Nat.le_of_ble_eq_true rfl)⟩ (Nat.le_of_ble_eq_true rfl) ⟨(Nat.le_of_ble_eq_true rfl), (Nat.le_of_ble_eq_true rfl)⟩ ?_
              refine zr_aload_n F zd_XReader_readTrack_64 rfl ?_
              refine zr_aload_n F zd_XReader_readTrack_65 rfl ?_
              refine zr_ldcS F 33 "times" zd_XReader_readTrack_66 (by decide +kernel) ?_
              refine zr_pcn 68 rfl ?_
              refine zr_bipushv (v := 32) F zd_XReader_readTrack_68 (by decide) ?_
              refine zr_iconstv (v := 1) F zd_XReader_readTrack_70 (by decide) ?_
              refine zr_iconstv (v := 0) F zd_XReader_readTrack_71 (by decide) ?_
              refine zr_ldc F zd_XReader_readTrack_72 zw_1276 ?_
              refine zr_iconstv (v := 1) F zd_XReader_readTrack_74 (by decide) ?_
              obtain ⟨le39, hs38, h⟩ := zoS_s h
              cases ep40 : F_XReader_numbers sh p37 o 33 32 1 0 1000000 1 with
              | none =>
                rw [ep40] at h
                dsimp only [zoX] at h
                exact zr_thrV F hno (kT_XReader_numbers l D tA b sh _ hl h) zd_XReader_readTrack_75 (zW_o hs38 (by decide)) rfl zs_XReader_160 rfl zq_XReader_numbers rfl rfl ⟨(Nat.le_of_ble_eq_true rfl), (Nat.le_of_ble_eq_true rfl)⟩ (Nat.le_of_ble_eq_true rfl) ⟨(Nat.le_of_ble_eq_true rfl), (Nat.le_of_ble_eq_true rfl)⟩ ⟨(Nat.le_of_ble_eq_true rfl), (Nat.le_of_ble_eq_true rfl)⟩
              | some p40 =>
                rw [ep40] at h
                dsimp only [zoX] at h
                refine zr_callV1 F (k_XReader_numbers l D tA b sh _ ep40) zd_XReader_readTrack_75 (zW_o hs38 (by decide)) rfl zs_XReader_160 rfl zq_XReader_numbers rfl rfl ⟨(Nat.le_of_ble_eq_true rfl), (Nat.le_of_ble_eq_true rfl)⟩ (Nat.le_of_ble_eq_true rfl) ⟨(Nat.le_of_ble_eq_true rfl), (Nat.le_of_ble_eq_true rfl)⟩ ?_
                obtain ⟨le42, hs41, h⟩ := zoS_s h
                refine zr_put F 11 3 zd_XReader_readTrack_78 (zW_o hs41 (by decide)) rfl (by decide) zw_258 rfl rfl rfl rfl (by exact (Nat.le_of_ble_eq_true rfl)) ?_
                obtain ⟨mm43, emm43, h⟩ := zoL_s h
                refine zr_norm (zW tA b sh mm43) _ (by rw [emm43]; exact zW_pI (v := (p40.1)) hs41 (by decide) (zf_I_11_3 b _ _ _)) rfl ?_
                refine zr_aload_n F zd_XReader_readTrack_81 rfl ?_
                refine zr_pcn 82 rfl ?_
                obtain ⟨le45, hs44, h⟩ := zoS_s h
                obtain ⟨a46, ea46, h⟩ := zoB_s h
                refine zr_get F 7 2 zd_XReader_readTrack_82 (zW_o hs44 (by decide)) rfl (by decide) zw_50 rfl (by rfl) ?_
                refine zr_tor ea46 ?_
                refine zr_iconstv (v := 0) F zd_XReader_readTrack_85 (by decide) ?_
                refine zr_aload_n F zd_XReader_readTrack_86 rfl ?_
                obtain ⟨le48, hs47, h⟩ := zoS_s h
                obtain ⟨a49, ea49, h⟩ := zoB_s h
                refine zr_get F 11 4 zd_XReader_readTrack_87 (zW_o hs47 (by decide)) rfl (by decide) zw_260 rfl (by rfl) ?_
                refine zr_tor ea49 ?_
                refine zr_iconstv (v := 0) F zd_XReader_readTrack_90 (by decide) ?_
                refine zr_aload_n F zd_XReader_readTrack_91 rfl ?_
                obtain ⟨le51, hs50, h⟩ := zoS_s h
                refine zr_get F 11 3 zd_XReader_readTrack_92 (zW_o hs50 (by decide)) rfl (by decide) zw_258 rfl (by rfl) ?_
                obtain ⟨x52, ex52, h⟩ := zoL_s h
                rw [← ex52]
                obtain ⟨le53, hs54, h⟩ := zoS_s h
                obtain ⟨le55, hs56, h⟩ := zoS_s h
                obtain ⟨hc57, h⟩ := zoT_s h
                obtain ⟨mm58, emm58, h⟩ := zoL_s h
                refine zr_copy F zd_XReader_readTrack_95 zw_1202 zw_724 zw_723 zw_26 (zW_a0 hs54) (zW_a0 hs56) hc57.1 hc57.2.1 hc57.2.2.1 hc57.2.2.2.1 hc57.2.2.2.2 (Nat.le_of_ble_eq_true rfl) (Nat.le_of_ble_eq_true rfl) ?_
                refine zr_norm (zW tA b sh mm58) _ (by rw [emm58]; exact zW_c hs56) rfl ?_
                refine zr_pcn 98 rfl ?_
                refine zr_aload_n F zd_XReader_readTrack_98 rfl ?_
                refine zr_bipushv (v := 44) F zd_XReader_readTrack_99 (by decide) ?_
                obtain ⟨le60, hs59, h⟩ := zoS_s h
                cases ep61 : F_XReader_need sh mm58 o 44 with
                | none =>
                  rw [ep61] at h
                  dsimp only [zoX] at h
                  exact zr_thrV F hno (kT_XReader_need l D tA b sh _ hl h) zd_XReader_readTrack_101 (zW_o hs59 (by decide)) rfl zs_XReader_45 rfl zq_XReader_need rfl rfl ⟨(Nat.le_of_ble_eq_true rfl), (Nat.le_of_ble_eq_true rfl)⟩ (Nat.le_of_ble_eq_true rfl) ⟨(Nat.le_of_ble_eq_true rfl), (Nat.le_of_ble_eq_true rfl)⟩ ⟨(Nat.le_of_ble_eq_true rfl), (Nat.le_of_ble_eq_true rfl)⟩
                | some p61 =>
                  rw [ep61] at h
                  dsimp only [zoX] at h
                  refine zr_callV0 F (k_XReader_need l D tA b sh _ ep61) zd_XReader_readTrack_101 (zW_o hs59 (by decide)) rfl zs_XReader_45 rfl zq_XReader_need rfl rfl ⟨(Nat.le_of_ble_eq_true rfl), (Nat.le_of_ble_eq_true rfl)⟩ (Nat.le_of_ble_eq_true rfl) ⟨(Nat.le_of_ble_eq_true rfl), (Nat.le_of_ble_eq_true rfl)⟩ ?_
                  refine zr_aload_n F zd_XReader_readTrack_104 rfl ?_
                  obtain ⟨le63, hs62, h⟩ := zoS_s h
                  refine zr_get F 11 1 zd_XReader_readTrack_105 (zW_o hs62 (by decide)) rfl (by decide) zw_254 rfl (by rfl) ?_
                  refine zr_callSN1 F (c_OB_reachOf l D tA b _ _ (p61.1 x0_ 1)) zd_XReader_readTrack_108 zs_XReader_258 zq_OB_reachOf rfl rfl ⟨(Nat.le_of_ble_eq_true rfl), (Nat.le_of_ble_eq_true rfl)⟩ (Nat.le_of_ble_eq_true rfl) ⟨(Nat.le_of_ble_eq_true rfl), (Nat.le_of_ble_eq_true rfl)⟩ ?_
                  obtain ⟨x65, ex65, h⟩ := zoL_s h
                  rw [← ex65]
                  refine zr_istore_n F zd_XReader_readTrack_111 (by decide) ?_
                  refine zr_iconstv (v := 3) F zd_XReader_readTrack_112 (by decide) ?_
                  refine zr_pcn 113 rfl ?_
                  refine zr_aload_n F zd_XReader_readTrack_113 rfl ?_
                  obtain ⟨le67, hs66, h⟩ := zoS_s h
                  refine zr_get F 11 3 zd_XReader_readTrack_114 (zW_o hs66 (by decide)) rfl (by decide) zw_258 rfl (by rfl) ?_
                  refine zr_imul F zd_XReader_readTrack_117 ?_
                  obtain ⟨x68, ex68, h⟩ := zoL_s h
                  rw [← ex68]
                  refine zr_istore_n F zd_XReader_readTrack_118 (by decide) ?_
                  refine zr_aload_n F zd_XReader_readTrack_119 rfl ?_
                  refine zr_ldcSW F 34 "values" zd_XReader_readTrack_120 (by decide +kernel) ?_
                  refine zr_iload_n F zd_XReader_readTrack_123 rfl ?_
                  refine zr_iload_n F zd_XReader_readTrack_124 rfl ?_
                  refine zr_pcn 125 rfl ?_
                  refine zr_iload_n F zd_XReader_readTrack_125 rfl ?_
                  refine zr_ineg F zd_XReader_readTrack_126 ?_
                  refine zr_iload_n F zd_XReader_readTrack_127 rfl ?_
                  refine zr_iconstv (v := 0) F zd_XReader_readTrack_128 (by decide) ?_
                  obtain ⟨le70, hs69, h⟩ := zoS_s h
                  cases ep71 : F_XReader_numbers sh p61 o 34 x68 x68 (-x65) x65 0 with
                  | none =>
                    rw [ep71] at h
                    dsimp only [zoX] at h
                    exact zr_thrV F hno (kT_XReader_numbers l D tA b sh _ hl h) zd_XReader_readTrack_129 (zW_o hs69 (by decide)) rfl zs_XReader_160 rfl zq_XReader_numbers rfl rfl ⟨(Nat.le_of_ble_eq_true rfl), (Nat.le_of_ble_eq_true rfl)⟩ (Nat.le_of_ble_eq_true rfl) ⟨(Nat.le_of_ble_eq_true rfl), (Nat.le_of_ble_eq_true rfl)⟩ ⟨(Nat.le_of_ble_eq_true rfl), (Nat.le_of_ble_eq_true rfl)⟩
                  | some p71 =>
                    rw [ep71] at h
                    dsimp only [zoX] at h
                    refine zr_callV1 F (k_XReader_numbers l D tA b sh _ ep71) zd_XReader_readTrack_129 (zW_o hs69 (by decide)) rfl zs_XReader_160 rfl zq_XReader_numbers rfl rfl ⟨(Nat.le_of_ble_eq_true rfl), (Nat.le_of_ble_eq_true rfl)⟩ (Nat.le_of_ble_eq_true rfl) ⟨(Nat.le_of_ble_eq_true rfl), (Nat.le_of_ble_eq_true rfl)⟩ ?_
                    refine zr_pop F zd_XReader_readTrack_132 rfl ?_
                    refine zr_aload_n F zd_XReader_readTrack_133 rfl ?_
                    obtain ⟨le73, hs72, h⟩ := zoS_s h
                    obtain ⟨a74, ea74, h⟩ := zoB_s h
                    refine zr_get F 7 2 zd_XReader_readTrack_134 (zW_o hs72 (by decide)) rfl (by decide) zw_50 rfl (by rfl) ?_
                    refine zr_tor ea74 ?_
                    refine zr_pcn 137 rfl ?_
                    refine zr_iconstv (v := 0) F zd_XReader_readTrack_137 (by decide) ?_
                    refine zr_aload_n F zd_XReader_readTrack_138 rfl ?_
                    obtain ⟨le76, hs75, h⟩ := zoS_s h
                    obtain ⟨a77, ea77, h⟩ := zoB_s h
                    refine zr_get F 11 5 zd_XReader_readTrack_139 (zW_o hs75 (by decide)) rfl (by decide) zw_262 rfl (by rfl) ?_
                    refine zr_tor ea77 ?_
                    refine zr_iconstv (v := 0) F zd_XReader_readTrack_142 (by decide) ?_
                    refine zr_iload_n F zd_XReader_readTrack_143 rfl ?_
                    obtain ⟨le78, hs79, h⟩ := zoS_s h
                    obtain ⟨le80, hs81, h⟩ := zoS_s h
                    obtain ⟨hc82, h⟩ := zoT_s h
                    obtain ⟨mm83, emm83, h⟩ := zoL_s h
                    refine zr_copy F zd_XReader_readTrack_144 zw_1202 zw_724 zw_723 zw_26 (zW_a0 hs79) (zW_a0 hs81) hc82.1 hc82.2.1 hc82.2.2.1 hc82.2.2.2.1 hc82.2.2.2.2 (Nat.le_of_ble_eq_true rfl) (Nat.le_of_ble_eq_true rfl) ?_
                    refine zr_norm (zW tA b sh mm83) _ (by rw [emm83]; exact zW_c hs81) rfl ?_
                    cases h
abbrev zb_XReader_readCamera : ByteArray := prog_8_method_10_code
def zy_XReader_readCamera : MethodName := ⟨"OrreryBox$Reader", "readCamera", "()V"⟩
theorem zc_XReader_readCamera : Cond.code zy_XReader_readCamera zb_XReader_readCamera 1 none ∈ gw := gw_t 1183 (by decide +kernel) rfl
theorem zq_XReader_readCamera : zy_XReader_readCamera.cls ≠ "java/lang/invoke/MethodHandle" ∧ zy_XReader_readCamera.cls ≠ "java/lang/invoke/VarHandle" ∧ (parseMethodDescriptor zy_XReader_readCamera.desc).map (fun d => d.parameters.length) = some 0 := by decide +kernel
theorem zd_XReader_readCamera_0 : decode zb_XReader_readCamera 0 = .ok (.aload_n 0, 1) := by decide +kernel
theorem zd_XReader_readCamera_1 : decode zb_XReader_readCamera 1 = .ok (.bipush 123, 2) := by decide +kernel
theorem zd_XReader_readCamera_3 : decode zb_XReader_readCamera 3 = .ok (.invokevirtual 45, 3) := by decide +kernel
theorem zd_XReader_readCamera_6 : decode zb_XReader_readCamera 6 = .ok (.aload_n 0, 1) := by decide +kernel
theorem zd_XReader_readCamera_7 : decode zb_XReader_readCamera 7 = .ok (.ldc 226, 2) := by decide +kernel
theorem zd_XReader_readCamera_9 : decode zb_XReader_readCamera 9 = .ok (.iconst 3, 1) := by decide +kernel
theorem zd_XReader_readCamera_10 : decode zb_XReader_readCamera 10 = .ok (.iconst 3, 1) := by decide +kernel
theorem zd_XReader_readCamera_11 : decode zb_XReader_readCamera 11 = .ok (.ldc 228, 2) := by decide +kernel
theorem zd_XReader_readCamera_13 : decode zb_XReader_readCamera 13 = .ok (.ldc 229, 2) := by decide +kernel
theorem zd_XReader_readCamera_15 : decode zb_XReader_readCamera 15 = .ok (.iconst 0, 1) := by decide +kernel
theorem zd_XReader_readCamera_16 : decode zb_XReader_readCamera 16 = .ok (.invokevirtual 160, 3) := by decide +kernel
theorem zd_XReader_readCamera_19 : decode zb_XReader_readCamera 19 = .ok (.pop, 1) := by decide +kernel
theorem zd_XReader_readCamera_20 : decode zb_XReader_readCamera 20 = .ok (.aload_n 0, 1) := by decide +kernel
theorem zd_XReader_readCamera_21 : decode zb_XReader_readCamera 21 = .ok (.getfield 9, 3) := by decide +kernel
theorem zd_XReader_readCamera_24 : decode zb_XReader_readCamera 24 = .ok (.iconst 0, 1) := by decide +kernel
theorem zd_XReader_readCamera_25 : decode zb_XReader_readCamera 25 = .ok (.aload_n 0, 1) := by decide +kernel
theorem zd_XReader_readCamera_26 : decode zb_XReader_readCamera 26 = .ok (.getfield 23, 3) := by decide +kernel
theorem zd_XReader_readCamera_29 : decode zb_XReader_readCamera 29 = .ok (.getfield 266, 3) := by decide +kernel
theorem zd_XReader_readCamera_32 : decode zb_XReader_readCamera 32 = .ok (.iconst 0, 1) := by decide +kernel
theorem zd_XReader_readCamera_33 : decode zb_XReader_readCamera 33 = .ok (.iconst 3, 1) := by decide +kernel
theorem zd_XReader_readCamera_34 : decode zb_XReader_readCamera 34 = .ok (.invokestatic 169, 3) := by decide +kernel
theorem zd_XReader_readCamera_37 : decode zb_XReader_readCamera 37 = .ok (.aload_n 0, 1) := by decide +kernel
theorem zd_XReader_readCamera_38 : decode zb_XReader_readCamera 38 = .ok (.bipush 44, 2) := by decide +kernel
theorem zd_XReader_readCamera_40 : decode zb_XReader_readCamera 40 = .ok (.invokevirtual 45, 3) := by decide +kernel
theorem zd_XReader_readCamera_43 : decode zb_XReader_readCamera 43 = .ok (.aload_n 0, 1) := by decide +kernel
theorem zd_XReader_readCamera_44 : decode zb_XReader_readCamera 44 = .ok (.ldc 232, 2) := by decide +kernel
theorem zd_XReader_readCamera_46 : decode zb_XReader_readCamera 46 = .ok (.iconst 3, 1) := by decide +kernel
theorem zd_XReader_readCamera_47 : decode zb_XReader_readCamera 47 = .ok (.iconst 3, 1) := by decide +kernel
theorem zd_XReader_readCamera_48 : decode zb_XReader_readCamera 48 = .ok (.ldc 187, 2) := by decide +kernel
theorem zd_XReader_readCamera_50 : decode zb_XReader_readCamera 50 = .ok (.ldc 188, 2) := by decide +kernel
theorem zd_XReader_readCamera_52 : decode zb_XReader_readCamera 52 = .ok (.iconst 0, 1) := by decide +kernel
theorem zd_XReader_readCamera_53 : decode zb_XReader_readCamera 53 = .ok (.invokevirtual 160, 3) := by decide +kernel
theorem zd_XReader_readCamera_56 : decode zb_XReader_readCamera 56 = .ok (.pop, 1) := by decide +kernel
theorem zd_XReader_readCamera_57 : decode zb_XReader_readCamera 57 = .ok (.aload_n 0, 1) := by decide +kernel
theorem zd_XReader_readCamera_58 : decode zb_XReader_readCamera 58 = .ok (.getfield 9, 3) := by decide +kernel
theorem zd_XReader_readCamera_61 : decode zb_XReader_readCamera 61 = .ok (.iconst 0, 1) := by decide +kernel
theorem zd_XReader_readCamera_62 : decode zb_XReader_readCamera 62 = .ok (.aload_n 0, 1) := by decide +kernel
theorem zd_XReader_readCamera_63 : decode zb_XReader_readCamera 63 = .ok (.getfield 23, 3) := by decide +kernel
theorem zd_XReader_readCamera_66 : decode zb_XReader_readCamera 66 = .ok (.getfield 266, 3) := by decide +kernel
theorem zd_XReader_readCamera_69 : decode zb_XReader_readCamera 69 = .ok (.iconst 3, 1) := by decide +kernel
theorem zd_XReader_readCamera_70 : decode zb_XReader_readCamera 70 = .ok (.iconst 3, 1) := by decide +kernel
theorem zd_XReader_readCamera_71 : decode zb_XReader_readCamera 71 = .ok (.invokestatic 169, 3) := by decide +kernel
theorem zd_XReader_readCamera_74 : decode zb_XReader_readCamera 74 = .ok (.aload_n 0, 1) := by decide +kernel
theorem zd_XReader_readCamera_75 : decode zb_XReader_readCamera 75 = .ok (.bipush 44, 2) := by decide +kernel
theorem zd_XReader_readCamera_77 : decode zb_XReader_readCamera 77 = .ok (.invokevirtual 45, 3) := by decide +kernel
theorem zd_XReader_readCamera_80 : decode zb_XReader_readCamera 80 = .ok (.aload_n 0, 1) := by decide +kernel
theorem zd_XReader_readCamera_81 : decode zb_XReader_readCamera 81 = .ok (.getfield 23, 3) := by decide +kernel
theorem zd_XReader_readCamera_84 : decode zb_XReader_readCamera 84 = .ok (.getfield 266, 3) := by decide +kernel
theorem zd_XReader_readCamera_87 : decode zb_XReader_readCamera 87 = .ok (.bipush 6, 2) := by decide +kernel
theorem zd_XReader_readCamera_89 : decode zb_XReader_readCamera 89 = .ok (.aload_n 0, 1) := by decide +kernel
theorem zd_XReader_readCamera_90 : decode zb_XReader_readCamera 90 = .ok (.ldc_w 269, 3) := by decide +kernel
theorem zd_XReader_readCamera_93 : decode zb_XReader_readCamera 93 = .ok (.bipush 8, 2) := by decide +kernel
theorem zd_XReader_readCamera_95 : decode zb_XReader_readCamera 95 = .ok (.sipush 512, 3) := by decide +kernel
theorem zd_XReader_readCamera_98 : decode zb_XReader_readCamera 98 = .ok (.invokevirtual 138, 3) := by decide +kernel
theorem zd_XReader_readCamera_101 : decode zb_XReader_readCamera 101 = .ok (.iastore, 1) := by decide +kernel
theorem zd_XReader_readCamera_102 : decode zb_XReader_readCamera 102 = .ok (.aload_n 0, 1) := by decide +kernel
theorem zd_XReader_readCamera_103 : decode zb_XReader_readCamera 103 = .ok (.bipush 125, 2) := by decide +kernel
theorem zd_XReader_readCamera_105 : decode zb_XReader_readCamera 105 = .ok (.invokevirtual 45, 3) := by decide +kernel
theorem zd_XReader_readCamera_108 : decode zb_XReader_readCamera 108 = .ok (.return_, 1) := by decide +kernel
theorem zw_303 : (Jvm.Cond.fieldLink "OrreryBox$Reader" (266 : Nat) "OrreryBox$Scene" "viewer" "[I") ∈ gw := gw_t 303 (by decide +kernel) rfl
def F_XReader_readCamera (sh : zSh) (mm : zMem) (o : Nat) : Option zMem := zoS (sh o) 7 (fun le2 => Option.bind (F_XReader_need sh mm o 123) (fun p3 => zoS (sh o) 7 (fun le5 => Option.bind (F_XReader_numbers sh p3 o 10 3 3 (-4194304) 4194304 0) (fun p6 => zoS (sh o) 7 (fun le8 => Option.bind ((p6.2).2.2 o 2) (fun a9 => zoS (sh o) 7 (fun le11 => Option.bind ((p6.2).2.2 o 7) (fun a12 => zoS (sh a12) 8 (fun le14 => Option.bind ((p6.2).2.2 a12 6) (fun a15 => zoS (sh a9) 100 (fun le16 => zoS (sh a15) 100 (fun le18 => if ¬ (0 : Int32) < 0 ∧ ¬ (0 : Int32) < 0 ∧ ¬ (3 : Int32) < 0 ∧ (0 : Int32).toNatClampNeg + (3 : Int32).toNatClampNeg ≤ le16 ∧ (0 : Int32).toNatClampNeg + (3 : Int32).toNatClampNeg ≤ le18 then zoL (mC (p6.2) a9 a15 (0 : Int32).toNatClampNeg (0 : Int32).toNatClampNeg (3 : Int32).toNatClampNeg) (fun mm21 => zoS (sh o) 7 (fun le23 => Option.bind (F_XReader_need sh mm21 o 44) (fun p24 => zoS (sh o) 7 (fun le26 => Option.bind (F_XReader_numbers sh p24 o 11 3 3 (-1048576) 1048576 0) (fun p27 => zoS (sh o) 7 (fun le29 => Option.bind ((p27.2).2.2 o 2) (fun a30 => zoS (sh o) 7 (fun le32 => Option.bind ((p27.2).2.2 o 7) (fun a33 => zoS (sh a33) 8 (fun le35 => Option.bind ((p27.2).2.2 a33 6) (fun a36 => zoS (sh a30) 100 (fun le37 => zoS (sh a36) 100 (fun le39 => if ¬ (0 : Int32) < 0 ∧ ¬ (3 : Int32) < 0 ∧ ¬ (3 : Int32) < 0 ∧ (0 : Int32).toNatClampNeg + (3 : Int32).toNatClampNeg ≤ le37 ∧ (3 : Int32).toNatClampNeg + (3 : Int32).toNatClampNeg ≤ le39 then zoL (mC (p27.2) a30 a36 (0 : Int32).toNatClampNeg (3 : Int32).toNatClampNeg (3 : Int32).toNatClampNeg) (fun mm42 => zoS (sh o) 7 (fun le44 => Option.bind (F_XReader_need sh mm42 o 44) (fun p45 => zoS (sh o) 7 (fun le47 => Option.bind (p45.2.2 o 7) (fun a48 => zoS (sh a48) 8 (fun le50 => Option.bind (p45.2.2 a48 6) (fun a51 => zoS (sh o) 7 (fun le53 => Option.bind (F_XReader_number sh p45 o 12 8 512) (fun p54 => zoS (sh a51) 100 (fun le56 => if (6 : Int32) < 0 ∨ le56 ≤ (6 : Int32).toNatClampNeg then none else zoL (mI (p54.2) a51 (6 : Int32).toNatClampNeg (p54.1)) (fun mm58 => zoS (sh o) 7 (fun le60 => Option.bind (F_XReader_need sh mm58 o 125) (fun p61 => some p61))))))))))))) else none))))))))))))) else none))))))))))))
set_option maxHeartbeats 4000000 in
set_option maxRecDepth 100000 in
theorem k_XReader_readCamera (l : Launch) (D : va_G) (tA : Nat → ClassId) (b : Nat) (sh : zSh) (n : Nat) {mm : zMem} {o : Nat} {r : zMem} (h : F_XReader_readCamera sh mm o = some r) : zM l D tA b zy_XReader_readCamera zb_XReader_readCamera 1 none 7 158 0 0 [.ref (b + o)] (zW tA b sh mm) n (zE none (zW tA b sh r) n) := by
  unfold F_XReader_readCamera at h
  refine zM_of (own := "OrreryBox$Reader") (plainFor_of_name (by decide)) rfl (Nat.le_of_ble_eq_true rfl) (fun p e s m below meth c F hr hin hH => ?_)
  refine zr_aload_n F zd_XReader_readCamera_0 rfl ?_
  refine zr_bipushv (v := 123) F zd_XReader_readCamera_1 (by decide) ?_
  obtain ⟨le2, hs1, h⟩ := zoS_s h
  obtain ⟨p3, ep3, h⟩ := zoB_s h
  refine zr_callV0 F (k_XReader_need l D tA b sh _ ep3) zd_XReader_readCamera_3 (zW_o hs1 (by decide)) rfl zs_XReader_45 rfl zq_XReader_need rfl rfl ⟨(Nat.le_of_ble_eq_true rfl), (Nat.le_of_ble_eq_true rfl)⟩ (Nat.le_of_ble_eq_true rfl) ⟨(Nat.le_of_ble_eq_true rfl), (Nat.le_of_ble_eq_true rfl)⟩ ?_
  refine zr_aload_n F zd_XReader_readCamera_6 rfl ?_
  refine zr_ldcS F 10 "move" zd_XReader_readCamera_7 (by decide +kernel) ?_
  refine zr_iconstv (v := 3) F zd_XReader_readCamera_9 (by decide) ?_
  refine zr_iconstv (v := 3) F zd_XReader_readCamera_10 (by decide) ?_
  refine zr_pcn 11 rfl ?_
  refine zr_ldc F zd_XReader_readCamera_11 zw_1185 ?_
  refine zr_ldc F zd_XReader_readCamera_13 zw_1186 ?_
  refine zr_iconstv (v := 0) F zd_XReader_readCamera_15 (by decide) ?_
  obtain ⟨le5, hs4, h⟩ := zoS_s h
  obtain ⟨p6, ep6, h⟩ := zoB_s h
  refine zr_callV1 F (k_XReader_numbers l D tA b sh _ ep6) zd_XReader_readCamera_16 (zW_o hs4 (by decide)) rfl zs_XReader_160 rfl zq_XReader_numbers rfl rfl ⟨(Nat.le_of_ble_eq_true rfl), (Nat.le_of_ble_eq_true rfl)⟩ (Nat.le_of_ble_eq_true rfl) ⟨(Nat.le_of_ble_eq_true rfl), (Nat.le_of_ble_eq_true rfl)⟩ ?_
  refine zr_pop F zd_XReader_readCamera_19 rfl ?_
  refine zr_aload_n F zd_XReader_readCamera_20 rfl ?_
  obtain ⟨le8, hs7, h⟩ := zoS_s h
  obtain ⟨a9, ea9, h⟩ := zoB_s h
  refine zr_get F 7 2 zd_XReader_readCamera_21 (zW_o hs7 (by decide)) rfl (by decide) zw_50 rfl (by rfl) ?_
  refine zr_tor ea9 ?_
  refine zr_iconstv (v := 0) F zd_XReader_readCamera_24 (by decide) ?_
  refine zr_pcn 25 rfl ?_
  refine zr_aload_n F zd_XReader_readCamera_25 rfl ?_
  obtain ⟨le11, hs10, h⟩ := zoS_s h
  obtain ⟨a12, ea12, h⟩ := zoB_s h
  refine zr_get F 7 7 zd_XReader_readCamera_26 (zW_o hs10 (by decide)) rfl (by decide) zw_55 rfl (by rfl) ?_
  refine zr_tor ea12 ?_
  obtain ⟨le14, hs13, h⟩ := zoS_s h
  obtain ⟨a15, ea15, h⟩ := zoB_s h
  refine zr_get F 8 6 zd_XReader_readCamera_29 (zW_o hs13 (by decide)) rfl (by decide) zw_303 rfl (by rfl) ?_
  refine zr_tor ea15 ?_
  refine zr_iconstv (v := 0) F zd_XReader_readCamera_32 (by decide) ?_
  refine zr_iconstv (v := 3) F zd_XReader_readCamera_33 (by decide) ?_
  obtain ⟨le16, hs17, h⟩ := zoS_s h
  obtain ⟨le18, hs19, h⟩ := zoS_s h
  obtain ⟨hc20, h⟩ := zoT_s h
  obtain ⟨mm21, emm21, h⟩ := zoL_s h
  refine zr_copy F zd_XReader_readCamera_34 zw_1202 zw_724 zw_723 zw_26 (zW_a0 hs17) (zW_a0 hs19) hc20.1 hc20.2.1 hc20.2.2.1 hc20.2.2.2.1 hc20.2.2.2.2 (Nat.le_of_ble_eq_true rfl) (Nat.le_of_ble_eq_true rfl) ?_
  refine zr_norm (zW tA b sh mm21) _ (by rw [emm21]; exact zW_c hs19) rfl ?_
  refine zr_aload_n F zd_XReader_readCamera_37 rfl ?_
  refine zr_bipushv (v := 44) F zd_XReader_readCamera_38 (by decide) ?_
  refine zr_pcn 40 rfl ?_
  obtain ⟨le23, hs22, h⟩ := zoS_s h
  obtain ⟨p24, ep24, h⟩ := zoB_s h
  refine zr_callV0 F (k_XReader_need l D tA b sh _ ep24) zd_XReader_readCamera_40 (zW_o hs22 (by decide)) rfl zs_XReader_45 rfl zq_XReader_need rfl rfl ⟨(Nat.le_of_ble_eq_true rfl), (Nat.le_of_ble_eq_true rfl)⟩ (Nat.le_of_ble_eq_true rfl) ⟨(Nat.le_of_ble_eq_true rfl), (Nat.le_of_ble_eq_true rfl)⟩ ?_
  refine zr_aload_n F zd_XReader_readCamera_43 rfl ?_
  refine zr_ldcS F 11 "turn" zd_XReader_readCamera_44 (by decide +kernel) ?_
  refine zr_iconstv (v := 3) F zd_XReader_readCamera_46 (by decide) ?_
  refine zr_iconstv (v := 3) F zd_XReader_readCamera_47 (by decide) ?_
  refine zr_ldc F zd_XReader_readCamera_48 zw_1204 ?_
  refine zr_ldc F zd_XReader_readCamera_50 zw_1205 ?_
  refine zr_iconstv (v := 0) F zd_XReader_readCamera_52 (by decide) ?_
  refine zr_pcn 53 rfl ?_
  obtain ⟨le26, hs25, h⟩ := zoS_s h
  obtain ⟨p27, ep27, h⟩ := zoB_s h
  refine zr_callV1 F (k_XReader_numbers l D tA b sh _ ep27) zd_XReader_readCamera_53 (zW_o hs25 (by decide)) rfl zs_XReader_160 rfl zq_XReader_numbers rfl rfl ⟨(Nat.le_of_ble_eq_true rfl), (Nat.le_of_ble_eq_true rfl)⟩ (Nat.le_of_ble_eq_true rfl) ⟨(Nat.le_of_ble_eq_true rfl), (Nat.le_of_ble_eq_true rfl)⟩ ?_
  refine zr_pop F zd_XReader_readCamera_56 rfl ?_
  refine zr_aload_n F zd_XReader_readCamera_57 rfl ?_
  obtain ⟨le29, hs28, h⟩ := zoS_s h
  obtain ⟨a30, ea30, h⟩ := zoB_s h
  refine zr_get F 7 2 zd_XReader_readCamera_58 (zW_o hs28 (by decide)) rfl (by decide) zw_50 rfl (by rfl) ?_
  refine zr_tor ea30 ?_
  refine zr_iconstv (v := 0) F zd_XReader_readCamera_61 (by decide) ?_
  refine zr_aload_n F zd_XReader_readCamera_62 rfl ?_
  obtain ⟨le32, hs31, h⟩ := zoS_s h
  obtain ⟨a33, ea33, h⟩ := zoB_s h
  refine zr_get F 7 7 zd_XReader_readCamera_63 (zW_o hs31 (by decide)) rfl (by decide) zw_55 rfl (by rfl) ?_
  refine zr_tor ea33 ?_
  obtain ⟨le35, hs34, h⟩ := zoS_s h
  obtain ⟨a36, ea36, h⟩ := zoB_s h
  refine zr_get F 8 6 zd_XReader_readCamera_66 (zW_o hs34 (by decide)) rfl (by decide) zw_303 rfl (by rfl) ?_
  refine zr_tor ea36 ?_
  refine zr_pcn 69 rfl ?_
  refine zr_iconstv (v := 3) F zd_XReader_readCamera_69 (by decide) ?_
  refine zr_iconstv (v := 3) F zd_XReader_readCamera_70 (by decide) ?_
  obtain ⟨le37, hs38, h⟩ := zoS_s h
  obtain ⟨le39, hs40, h⟩ := zoS_s h
  obtain ⟨hc41, h⟩ := zoT_s h
  obtain ⟨mm42, emm42, h⟩ := zoL_s h
  refine zr_copy F zd_XReader_readCamera_71 zw_1202 zw_724 zw_723 zw_26 (zW_a0 hs38) (zW_a0 hs40) hc41.1 hc41.2.1 hc41.2.2.1 hc41.2.2.2.1 hc41.2.2.2.2 (Nat.le_of_ble_eq_true rfl) (Nat.le_of_ble_eq_true rfl) ?_
  refine zr_norm (zW tA b sh mm42) _ (by rw [emm42]; exact zW_c hs40) rfl ?_
  refine zr_aload_n F zd_XReader_readCamera_74 rfl ?_
  refine zr_bipushv (v := 44) F zd_XReader_readCamera_75 (by decide) ?_
  obtain ⟨le44, hs43, h⟩ := zoS_s h
  obtain ⟨p45, ep45, h⟩ := zoB_s h
  refine zr_callV0 F (k_XReader_need l D tA b sh _ ep45) zd_XReader_readCamera_77 (zW_o hs43 (by decide)) rfl zs_XReader_45 rfl zq_XReader_need rfl rfl ⟨(Nat.le_of_ble_eq_true rfl), (Nat.le_of_ble_eq_true rfl)⟩ (Nat.le_of_ble_eq_true rfl) ⟨(Nat.le_of_ble_eq_true rfl), (Nat.le_of_ble_eq_true rfl)⟩ ?_
  refine zr_aload_n F zd_XReader_readCamera_80 rfl ?_
  obtain ⟨le47, hs46, h⟩ := zoS_s h
  obtain ⟨a48, ea48, h⟩ := zoB_s h
  refine zr_get F 7 7 zd_XReader_readCamera_81 (zW_o hs46 (by decide)) rfl (by decide) zw_55 rfl (by rfl) ?_
  refine zr_tor ea48 ?_
  refine zr_pcn 84 rfl ?_
  obtain ⟨le50, hs49, h⟩ := zoS_s h
  obtain ⟨a51, ea51, h⟩ := zoB_s h
  refine zr_get F 8 6 zd_XReader_readCamera_84 (zW_o hs49 (by decide)) rfl (by decide) zw_303 rfl (by rfl) ?_
  refine zr_tor ea51 ?_
  refine zr_bipushv (v := 6) F zd_XReader_readCamera_87 (by decide) ?_
  refine zr_aload_n F zd_XReader_readCamera_89 rfl ?_
  refine zr_ldcSW F 12 "focus" zd_XReader_readCamera_90 (by decide +kernel) ?_
  refine zr_bipushv (v := 8) F zd_XReader_readCamera_93 (by decide) ?_
  refine zr_sipushv (v := 512) F zd_XReader_readCamera_95 (by decide) ?_
  obtain ⟨le53, hs52, h⟩ := zoS_s h
  obtain ⟨p54, ep54, h⟩ := zoB_s h
  refine zr_callV1 F (k_XReader_number l D tA b sh _ ep54) zd_XReader_readCamera_98 (zW_o hs52 (by decide)) rfl zs_XReader_138 rfl zq_XReader_number rfl rfl ⟨(Nat.le_of_ble_eq_true rfl), (Nat.le_of_ble_eq_true rfl)⟩ (Nat.le_of_ble_eq_true rfl) ⟨(Nat.le_of_ble_eq_true rfl), (Nat.le_of_ble_eq_true rfl)⟩ ?_
  obtain ⟨le56, hs55, h⟩ := zoS_s h
  obtain ⟨hi57, h⟩ := zoI_s h
  refine zr_iast F zd_XReader_readCamera_101 (zW_a0 hs55) hi57 ?_
  obtain ⟨mm58, emm58, h⟩ := zoL_s h
  refine zr_norm (zW tA b sh mm58) _ (by rw [emm58]; exact zW_s0 hs55) rfl ?_
  refine zr_pcn 102 rfl ?_
  refine zr_aload_n F zd_XReader_readCamera_102 rfl ?_
  refine zr_bipushv (v := 125) F zd_XReader_readCamera_103 (by decide) ?_
  obtain ⟨le60, hs59, h⟩ := zoS_s h
  obtain ⟨p61, ep61, h⟩ := zoB_s h
  refine zr_callV0 F (k_XReader_need l D tA b sh _ ep61) zd_XReader_readCamera_105 (zW_o hs59 (by decide)) rfl zs_XReader_45 rfl zq_XReader_need rfl rfl ⟨(Nat.le_of_ble_eq_true rfl), (Nat.le_of_ble_eq_true rfl)⟩ (Nat.le_of_ble_eq_true rfl) ⟨(Nat.le_of_ble_eq_true rfl), (Nat.le_of_ble_eq_true rfl)⟩ ?_
  obtain rfl := Option.some.inj h
  exact zr_vret F hr zd_XReader_readCamera_108 (Nat.le_of_ble_eq_true rfl) (Nat.le_of_ble_eq_true rfl) ⟨rfl, rfl, rfl⟩
def T_XReader_readCamera (sh : zSh) (mm : zMem) (o : Nat) : Option zMem := zoS (sh o) 7 (fun le2 => zoX (F_XReader_need sh mm o 123) (T_XReader_need sh mm o 123) (fun p3 => zoS (sh o) 7 (fun le5 => zoX (F_XReader_numbers sh p3 o 10 3 3 (-4194304) 4194304 0) (T_XReader_numbers sh p3 o 10 3 3 (-4194304) 4194304 0) (fun p6 => zoS (sh o) 7 (fun le8 => Option.bind ((p6.2).2.2 o 2) (fun a9 => zoS (sh o) 7 (fun le11 => Option.bind ((p6.2).2.2 o 7) (fun a12 => zoS (sh a12) 8 (fun le14 => Option.bind ((p6.2).2.2 a12 6) (fun a15 => zoS (sh a9) 100 (fun le16 => zoS (sh a15) 100 (fun le18 => if ¬ (0 : Int32) < 0 ∧ ¬ (0 : Int32) < 0 ∧ ¬ (3 : Int32) < 0 ∧ (0 : Int32).toNatClampNeg + (3 : Int32).toNatClampNeg ≤ le16 ∧ (0 : Int32).toNatClampNeg + (3 : Int32).toNatClampNeg ≤ le18 then zoL (mC (p6.2) a9 a15 (0 : Int32).toNatClampNeg (0 : Int32).toNatClampNeg (3 : Int32).toNatClampNeg) (fun mm21 => zoS (sh o) 7 (fun le23 => zoX (F_XReader_need sh mm21 o 44) (T_XReader_need sh mm21 o 44) (fun p24 => zoS (sh o) 7 (fun le26 => zoX (F_XReader_numbers sh p24 o 11 3 3 (-1048576) 1048576 0) (T_XReader_numbers sh p24 o 11 3 3 (-1048576) 1048576 0) (fun p27 => zoS (sh o) 7 (fun le29 => Option.bind ((p27.2).2.2 o 2) (fun a30 => zoS (sh o) 7 (fun le32 => Option.bind ((p27.2).2.2 o 7) (fun a33 => zoS (sh a33) 8 (fun le35 => Option.bind ((p27.2).2.2 a33 6) (fun a36 => zoS (sh a30) 100 (fun le37 => zoS (sh a36) 100 (fun le39 => if ¬ (0 : Int32) < 0 ∧ ¬ (3 : Int32) < 0 ∧ ¬ (3 : Int32) < 0 ∧ (0 : Int32).toNatClampNeg + (3 : Int32).toNatClampNeg ≤ le37 ∧ (3 : Int32).toNatClampNeg + (3 : Int32).toNatClampNeg ≤ le39 then zoL (mC (p27.2) a30 a36 (0 : Int32).toNatClampNeg (3 : Int32).toNatClampNeg (3 : Int32).toNatClampNeg) (fun mm42 => zoS (sh o) 7 (fun le44 => zoX (F_XReader_need sh mm42 o 44) (T_XReader_need sh mm42 o 44) (fun p45 => zoS (sh o) 7 (fun le47 => Option.bind (p45.2.2 o 7) (fun a48 => zoS (sh a48) 8 (fun le50 => Option.bind (p45.2.2 a48 6) (fun a51 => zoS (sh o) 7 (fun le53 => zoX (F_XReader_number sh p45 o 12 8 512) (T_XReader_number sh p45 o 12 8 512) (fun p54 => zoS (sh a51) 100 (fun le56 => if (6 : Int32) < 0 ∨ le56 ≤ (6 : Int32).toNatClampNeg then none else zoL (mI (p54.2) a51 (6 : Int32).toNatClampNeg (p54.1)) (fun mm58 => zoS (sh o) 7 (fun le60 => zoX (F_XReader_need sh mm58 o 125) (T_XReader_need sh mm58 o 125) (fun p61 => none))))))))))))) else none))))))))))))) else none))))))))))))
set_option maxHeartbeats 4000000 in
set_option maxRecDepth 100000 in
theorem kT_XReader_readCamera (l : Launch) (D : va_G) (tA : Nat → ClassId) (b : Nat) (sh : zSh) (n : Nat) (hl : l.stackTraces = false) {mm : zMem} {o : Nat} {r : zMem} (h : T_XReader_readCamera sh mm o = some r) : zMT l D tA b zy_XReader_readCamera zb_XReader_readCamera 1 none 9 166 1 6 [.ref (b + o)] (zW tA b sh mm) n "java/lang/IllegalArgumentException" (zW tA b sh r) (n + 1) := by
  unfold T_XReader_readCamera at h
  refine zMT_of (own := "OrreryBox$Reader") (plainFor_of_name (by decide)) rfl (Nat.le_of_ble_eq_true rfl) (fun p e s m below meth c F hno hH => ?_)
  refine zr_aload_n F zd_XReader_readCamera_0 rfl ?_
  refine zr_bipushv (v := 123) F zd_XReader_readCamera_1 (by decide) ?_
  obtain ⟨le2, hs1, h⟩ := zoS_s h
  cases ep3 : F_XReader_need sh mm o 123 with
  | none =>
    rw [ep3] at h
    dsimp only [zoX] at h
    exact zr_thrV F hno (kT_XReader_need l D tA b sh _ hl h) zd_XReader_readCamera_3 (zW_o hs1 (by decide)) rfl zs_XReader_45 rfl zq_XReader_need rfl rfl ⟨(Nat.le_of_ble_eq_true rfl), (Nat.le_of_ble_eq_true rfl)⟩ (Nat.le_of_ble_eq_true rfl) ⟨(Nat.le_of_ble_eq_true rfl), (Nat.le_of_ble_eq_true rfl)⟩ ⟨(Nat.le_of_ble_eq_true rfl), (Nat.le_of_ble_eq_true rfl)⟩
  | some p3 =>
    rw [ep3] at h
    dsimp only [zoX] at h
    refine zr_callV0 F (k_XReader_need l D tA b sh _ ep3) zd_XReader_readCamera_3 (zW_o hs1 (by decide)) rfl zs_XReader_45 rfl zq_XReader_need rfl rfl ⟨(Nat.le_of_ble_eq_true rfl), (Nat.le_of_ble_eq_true rfl)⟩ (Nat.le_of_ble_eq_true rfl) ⟨(Nat.le_of_ble_eq_true rfl), (Nat.le_of_ble_eq_true rfl)⟩ ?_
    refine zr_aload_n F zd_XReader_readCamera_6 rfl ?_
    refine zr_ldcS F 10 "move" zd_XReader_readCamera_7 (by decide +kernel) ?_
    refine zr_iconstv (v := 3) F zd_XReader_readCamera_9 (by decide) ?_
    refine zr_iconstv (v := 3) F zd_XReader_readCamera_10 (by decide) ?_
    refine zr_pcn 11 rfl ?_
    refine zr_ldc F zd_XReader_readCamera_11 zw_1185 ?_
    refine zr_ldc F zd_XReader_readCamera_13 zw_1186 ?_
    refine zr_iconstv (v := 0) F zd_XReader_readCamera_15 (by decide) ?_
    obtain ⟨le5, hs4, h⟩ := zoS_s h
    cases ep6 : F_XReader_numbers sh p3 o 10 3 3 (-4194304) 4194304 0 with
    | none =>
      rw [ep6] at h
      dsimp only [zoX] at h
      exact zr_thrV F hno (kT_XReader_numbers l D tA b sh _ hl h) zd_XReader_readCamera_16 (zW_o hs4 (by decide)) rfl zs_XReader_160 rfl zq_XReader_numbers rfl rfl ⟨(Nat.le_of_ble_eq_true rfl), (Nat.le_of_ble_eq_true rfl)⟩ (Nat.le_of_ble_eq_true rfl) ⟨(Nat.le_of_ble_eq_true rfl), (Nat.le_of_ble_eq_true rfl)⟩ ⟨(Nat.le_of_ble_eq_true rfl), (Nat.le_of_ble_eq_true rfl)⟩
    | some p6 =>
      rw [ep6] at h
      dsimp only [zoX] at h
      refine zr_callV1 F (k_XReader_numbers l D tA b sh _ ep6) zd_XReader_readCamera_16 (zW_o hs4 (by decide)) rfl zs_XReader_160 rfl zq_XReader_numbers rfl rfl ⟨(Nat.le_of_ble_eq_true rfl), (Nat.le_of_ble_eq_true rfl)⟩ (Nat.le_of_ble_eq_true rfl) ⟨(Nat.le_of_ble_eq_true rfl), (Nat.le_of_ble_eq_true rfl)⟩ ?_
      refine zr_pop F zd_XReader_readCamera_19 rfl ?_
      refine zr_aload_n F zd_XReader_readCamera_20 rfl ?_
      obtain ⟨le8, hs7, h⟩ := zoS_s h
      obtain ⟨a9, ea9, h⟩ := zoB_s h
      refine zr_get F 7 2 zd_XReader_readCamera_21 (zW_o hs7 (by decide)) rfl (by decide) zw_50 rfl (by rfl) ?_
      refine zr_tor ea9 ?_
      refine zr_iconstv (v := 0) F zd_XReader_readCamera_24 (by decide) ?_
      refine zr_pcn 25 rfl ?_
      refine zr_aload_n F zd_XReader_readCamera_25 rfl ?_
      obtain ⟨le11, hs10, h⟩ := zoS_s h
      obtain ⟨a12, ea12, h⟩ := zoB_s h
      refine zr_get F 7 7 zd_XReader_readCamera_26 (zW_o hs10 (by decide)) rfl (by decide) zw_55 rfl (by rfl) ?_
      refine zr_tor ea12 ?_
      obtain ⟨le14, hs13, h⟩ := zoS_s h
      obtain ⟨a15, ea15, h⟩ := zoB_s h
      refine zr_get F 8 6 zd_XReader_readCamera_29 (zW_o hs13 (by decide)) rfl (by decide) zw_303 rfl (by rfl) ?_
      refine zr_tor ea15 ?_
      refine zr_iconstv (v := 0) F zd_XReader_readCamera_32 (by decide) ?_
      refine zr_iconstv (v := 3) F zd_XReader_readCamera_33 (by decide) ?_
      obtain ⟨le16, hs17, h⟩ := zoS_s h
      obtain ⟨le18, hs19, h⟩ := zoS_s h
      obtain ⟨hc20, h⟩ := zoT_s h
      obtain ⟨mm21, emm21, h⟩ := zoL_s h
      refine zr_copy F zd_XReader_readCamera_34 zw_1202 zw_724 zw_723 zw_26 (zW_a0 hs17) (zW_a0 hs19) hc20.1 hc20.2.1 hc20.2.2.1 hc20.2.2.2.1 hc20.2.2.2.2 (Nat.le_of_ble_eq_true rfl) (Nat.le_of_ble_eq_true rfl) ?_
      refine zr_norm (zW tA b sh mm21) _ (by rw [emm21]; exact zW_c hs19) rfl ?_
      refine zr_aload_n F zd_XReader_readCamera_37 rfl ?_
      refine zr_bipushv (v := 44) F zd_XReader_readCamera_38 (by decide) ?_
      refine zr_pcn 40 rfl ?_
      obtain ⟨le23, hs22, h⟩ := zoS_s h
      cases ep24 : F_XReader_need sh mm21 o 44 with
      | none =>
        rw [ep24] at h
        dsimp only [zoX] at h
        exact zr_thrV F hno (kT_XReader_need l D tA b sh _ hl h) zd_XReader_readCamera_40 (zW_o hs22 (by decide)) rfl zs_XReader_45 rfl zq_XReader_need rfl rfl ⟨(Nat.le_of_ble_eq_true rfl), (Nat.le_of_ble_eq_true rfl)⟩ (Nat.le_of_ble_eq_true rfl) ⟨(Nat.le_of_ble_eq_true rfl), (Nat.le_of_ble_eq_true rfl)⟩ ⟨(Nat.le_of_ble_eq_true rfl), (Nat.le_of_ble_eq_true rfl)⟩
      | some p24 =>
        rw [ep24] at h
        dsimp only [zoX] at h
        refine zr_callV0 F (k_XReader_need l D tA b sh _ ep24) zd_XReader_readCamera_40 (zW_o hs22 (by decide)) rfl zs_XReader_45 rfl zq_XReader_need rfl rfl ⟨(Nat.le_of_ble_eq_true rfl), (Nat.le_of_ble_eq_true rfl)⟩ (Nat.le_of_ble_eq_true rfl) ⟨(Nat.le_of_ble_eq_true rfl), (Nat.le_of_ble_eq_true rfl)⟩ ?_
        refine zr_aload_n F zd_XReader_readCamera_43 rfl ?_
        refine zr_ldcS F 11 "turn" zd_XReader_readCamera_44 (by decide +kernel) ?_
        refine zr_iconstv (v := 3) F zd_XReader_readCamera_46 (by decide) ?_
        refine zr_iconstv (v := 3) F zd_XReader_readCamera_47 (by decide) ?_
        refine zr_ldc F zd_XReader_readCamera_48 zw_1204 ?_
        refine zr_ldc F zd_XReader_readCamera_50 zw_1205 ?_
        refine zr_iconstv (v := 0) F zd_XReader_readCamera_52 (by decide) ?_
        refine zr_pcn 53 rfl ?_
        obtain ⟨le26, hs25, h⟩ := zoS_s h
        cases ep27 : F_XReader_numbers sh p24 o 11 3 3 (-1048576) 1048576 0 with
        | none =>
          rw [ep27] at h
          dsimp only [zoX] at h
          exact zr_thrV F hno (kT_XReader_numbers l D tA b sh _ hl h) zd_XReader_readCamera_53 (zW_o hs25 (by decide)) rfl zs_XReader_160 rfl zq_XReader_numbers rfl rfl ⟨(Nat.le_of_ble_eq_true rfl), (Nat.le_of_ble_eq_true rfl)⟩ (Nat.le_of_ble_eq_true rfl) ⟨(Nat.le_of_ble_eq_true rfl), (Nat.le_of_ble_eq_true rfl)⟩ ⟨(Nat.le_of_ble_eq_true rfl), (Nat.le_of_ble_eq_true rfl)⟩
        | some p27 =>
          rw [ep27] at h
          dsimp only [zoX] at h
          refine zr_callV1 F (k_XReader_numbers l D tA b sh _ ep27) zd_XReader_readCamera_53 (zW_o hs25 (by decide)) rfl zs_XReader_160 rfl zq_XReader_numbers rfl rfl ⟨(Nat.le_of_ble_eq_true rfl), (Nat.le_of_ble_eq_true rfl)⟩ (Nat.le_of_ble_eq_true rfl) ⟨(Nat.le_of_ble_eq_true rfl), (Nat.le_of_ble_eq_true rfl)⟩ ?_
          refine zr_pop F zd_XReader_readCamera_56 rfl ?_
          refine zr_aload_n F zd_XReader_readCamera_57 rfl ?_
          obtain ⟨le29, hs28, h⟩ := zoS_s h
          obtain ⟨a30, ea30, h⟩ := zoB_s h
          refine zr_get F 7 2 zd_XReader_readCamera_58 (zW_o hs28 (by decide)) rfl (by decide) zw_50 rfl (by rfl) ?_
          refine zr_tor ea30 ?_
          refine zr_iconstv (v := 0) F zd_XReader_readCamera_61 (by decide) ?_
          refine zr_aload_n F zd_XReader_readCamera_62 rfl ?_
          obtain ⟨le32, hs31, h⟩ := zoS_s h
          obtain ⟨a33, ea33, h⟩ := zoB_s h
          refine zr_get F 7 7 zd_XReader_readCamera_63 (zW_o hs31 (by decide)) rfl (by decide) zw_55 rfl (by rfl) ?_
          refine zr_tor ea33 ?_
          obtain ⟨le35, hs34, h⟩ := zoS_s h
          obtain ⟨a36, ea36, h⟩ := zoB_s h
          refine zr_get F 8 6 zd_XReader_readCamera_66 (zW_o hs34 (by decide)) rfl (by decide) zw_303 rfl (by rfl) ?_
          refine zr_tor ea36 ?_
          refine zr_pcn 69 rfl ?_
          refine zr_iconstv (v := 3) F zd_XReader_readCamera_69 (by decide) ?_
          refine zr_iconstv (v := 3) F zd_XReader_readCamera_70 (by decide) ?_
          obtain ⟨le37, hs38, h⟩ := zoS_s h
          obtain ⟨le39, hs40, h⟩ := zoS_s h
          obtain ⟨hc41, h⟩ := zoT_s h
          obtain ⟨mm42, emm42, h⟩ := zoL_s h
          refine zr_copy F zd_XReader_readCamera_71 zw_1202 zw_724 zw_723 zw_26 (zW_a0 hs38) (zW_a0 hs40) hc41.1 hc41.2.1 hc41.2.2.1 hc41.2.2.2.1 hc41.2.2.2.2 (Nat.le_of_ble_eq_true rfl) (Nat.le_of_ble_eq_true rfl) ?_
          refine zr_norm (zW tA b sh mm42) _ (by rw [emm42]; exact zW_c hs40) rfl ?_
          refine zr_aload_n F zd_XReader_readCamera_74 rfl ?_
          refine zr_bipushv (v := 44) F zd_XReader_readCamera_75 (by decide) ?_
          obtain ⟨le44, hs43, h⟩ := zoS_s h
          cases ep45 : F_XReader_need sh mm42 o 44 with
          | none =>
            rw [ep45] at h
            dsimp only [zoX] at h
            exact zr_thrV F hno (kT_XReader_need l D tA b sh _ hl h) zd_XReader_readCamera_77 (zW_o hs43 (by decide)) rfl zs_XReader_45 rfl zq_XReader_need rfl rfl ⟨(Nat.le_of_ble_eq_true rfl), (Nat.le_of_ble_eq_true rfl)⟩ (Nat.le_of_ble_eq_true rfl) ⟨(Nat.le_of_ble_eq_true rfl), (Nat.le_of_ble_eq_true rfl)⟩ ⟨(Nat.le_of_ble_eq_true rfl), (Nat.le_of_ble_eq_true rfl)⟩
          | some p45 =>
            rw [ep45] at h
            dsimp only [zoX] at h
            refine zr_callV0 F (k_XReader_need l D tA b sh _ ep45) zd_XReader_readCamera_77 (zW_o hs43 (by decide)) rfl zs_XReader_45 rfl zq_XReader_need rfl rfl ⟨(Nat.le_of_ble_eq_true rfl), (Nat.le_of_ble_eq_true rfl)⟩ (Nat.le_of_ble_eq_true rfl) ⟨(Nat.le_of_ble_eq_true rfl), (Nat.le_of_ble_eq_true rfl)⟩ ?_
            refine zr_aload_n F zd_XReader_readCamera_80 rfl ?_
            obtain ⟨le47, hs46, h⟩ := zoS_s h
            obtain ⟨a48, ea48, h⟩ := zoB_s h
            refine zr_get F 7 7 zd_XReader_readCamera_81 (zW_o hs46 (by decide)) rfl (by decide) zw_55 rfl (by rfl) ?_
            refine zr_tor ea48 ?_
            refine zr_pcn 84 rfl ?_
            obtain ⟨le50, hs49, h⟩ := zoS_s h
            obtain ⟨a51, ea51, h⟩ := zoB_s h
            refine zr_get F 8 6 zd_XReader_readCamera_84 (zW_o hs49 (by decide)) rfl (by decide) zw_303 rfl (by rfl) ?_
            refine zr_tor ea51 ?_
            refine zr_bipushv (v := 6) F zd_XReader_readCamera_87 (by decide) ?_
            refine zr_aload_n F zd_XReader_readCamera_89 rfl ?_
            refine zr_ldcSW F 12 "focus" zd_XReader_readCamera_90 (by decide +kernel) ?_
            refine zr_bipushv (v := 8) F zd_XReader_readCamera_93 (by decide) ?_
            refine zr_sipushv (v := 512) F zd_XReader_readCamera_95 (by decide) ?_
            obtain ⟨le53, hs52, h⟩ := zoS_s h
            cases ep54 : F_XReader_number sh p45 o 12 8 512 with
            | none =>
              rw [ep54] at h
              dsimp only [zoX] at h
              exact zr_thrV F hno (kT_XReader_number l D tA b sh _ hl h) zd_XReader_readCamera_98 (zW_o hs52 (by decide)) rfl zs_XReader_138 rfl zq_XReader_number rfl rfl ⟨(Nat.le_of_ble_eq_true rfl), (Nat.le_of_ble_eq_true rfl)⟩ (Nat.le_of_ble_eq_true rfl) ⟨(Nat.le_of_ble_eq_true rfl), (Nat.le_of_ble_eq_true rfl)⟩ ⟨(Nat.le_of_ble_eq_true rfl), (Nat.le_of_ble_eq_true rfl)⟩
            | some p54 =>
              rw [ep54] at h
              dsimp only [zoX] at h
              refine zr_callV1 F (k_XReader_number l D tA b sh _ ep54) zd_XReader_readCamera_98 (zW_o hs52 (by decide)) rfl zs_XReader_138 rfl zq_XReader_number rfl rfl ⟨(Nat.le_of_ble_eq_true rfl), (Nat.le_of_ble_eq_true rfl)⟩ (Nat.le_of_ble_eq_true rfl) ⟨(Nat.le_of_ble_eq_true rfl), (Nat.le_of_ble_eq_true rfl)⟩ ?_
              obtain ⟨le56, hs55, h⟩ := zoS_s h
              obtain ⟨hi57, h⟩ := zoI_s h
              refine zr_iast F zd_XReader_readCamera_101 (zW_a0 hs55) hi57 ?_
              obtain ⟨mm58, emm58, h⟩ := zoL_s h
              refine zr_norm (zW tA b sh mm58) _ (by rw [emm58]; exact zW_s0 hs55) rfl ?_
              refine zr_pcn 102 rfl ?_
              refine zr_aload_n F zd_XReader_readCamera_102 rfl ?_
              refine zr_bipushv (v := 125) F zd_XReader_readCamera_103 (by decide) ?_
              obtain ⟨le60, hs59, h⟩ := zoS_s h
              cases ep61 : F_XReader_need sh mm58 o 125 with
              | none =>
                rw [ep61] at h
                dsimp only [zoX] at h
                exact zr_thrV F hno (kT_XReader_need l D tA b sh _ hl h) zd_XReader_readCamera_105 (zW_o hs59 (by decide)) rfl zs_XReader_45 rfl zq_XReader_need rfl rfl ⟨(Nat.le_of_ble_eq_true rfl), (Nat.le_of_ble_eq_true rfl)⟩ (Nat.le_of_ble_eq_true rfl) ⟨(Nat.le_of_ble_eq_true rfl), (Nat.le_of_ble_eq_true rfl)⟩ ⟨(Nat.le_of_ble_eq_true rfl), (Nat.le_of_ble_eq_true rfl)⟩
              | some p61 =>
                rw [ep61] at h
                dsimp only [zoX] at h
                refine zr_callV0 F (k_XReader_need l D tA b sh _ ep61) zd_XReader_readCamera_105 (zW_o hs59 (by decide)) rfl zs_XReader_45 rfl zq_XReader_need rfl rfl ⟨(Nat.le_of_ble_eq_true rfl), (Nat.le_of_ble_eq_true rfl)⟩ (Nat.le_of_ble_eq_true rfl) ⟨(Nat.le_of_ble_eq_true rfl), (Nat.le_of_ble_eq_true rfl)⟩ ?_
                cases h
abbrev zb_XReader_readLight : ByteArray := prog_8_method_11_code
def zy_XReader_readLight : MethodName := ⟨"OrreryBox$Reader", "readLight", "()V"⟩
theorem zc_XReader_readLight : Cond.code zy_XReader_readLight zb_XReader_readLight 1 none ∈ gw := gw_t 1214 (by decide +kernel) rfl
theorem zq_XReader_readLight : zy_XReader_readLight.cls ≠ "java/lang/invoke/MethodHandle" ∧ zy_XReader_readLight.cls ≠ "java/lang/invoke/VarHandle" ∧ (parseMethodDescriptor zy_XReader_readLight.desc).map (fun d => d.parameters.length) = some 0 := by decide +kernel
theorem zd_XReader_readLight_0 : decode zb_XReader_readLight 0 = .ok (.aload_n 0, 1) := by decide +kernel
theorem zd_XReader_readLight_1 : decode zb_XReader_readLight 1 = .ok (.bipush 123, 2) := by decide +kernel
theorem zd_XReader_readLight_3 : decode zb_XReader_readLight 3 = .ok (.invokevirtual 45, 3) := by decide +kernel
theorem zd_XReader_readLight_6 : decode zb_XReader_readLight 6 = .ok (.aload_n 0, 1) := by decide +kernel
theorem zd_XReader_readLight_7 : decode zb_XReader_readLight 7 = .ok (.ldc_w 271, 3) := by decide +kernel
theorem zd_XReader_readLight_10 : decode zb_XReader_readLight 10 = .ok (.iconst 3, 1) := by decide +kernel
theorem zd_XReader_readLight_11 : decode zb_XReader_readLight 11 = .ok (.iconst 3, 1) := by decide +kernel
theorem zd_XReader_readLight_12 : decode zb_XReader_readLight 12 = .ok (.ldc 196, 2) := by decide +kernel
theorem zd_XReader_readLight_14 : decode zb_XReader_readLight 14 = .ok (.ldc 197, 2) := by decide +kernel
theorem zd_XReader_readLight_16 : decode zb_XReader_readLight 16 = .ok (.iconst 0, 1) := by decide +kernel
theorem zd_XReader_readLight_17 : decode zb_XReader_readLight 17 = .ok (.invokevirtual 160, 3) := by decide +kernel
theorem zd_XReader_readLight_20 : decode zb_XReader_readLight 20 = .ok (.pop, 1) := by decide +kernel
theorem zd_XReader_readLight_21 : decode zb_XReader_readLight 21 = .ok (.aload_n 0, 1) := by decide +kernel
theorem zd_XReader_readLight_22 : decode zb_XReader_readLight 22 = .ok (.getfield 9, 3) := by decide +kernel
theorem zd_XReader_readLight_25 : decode zb_XReader_readLight 25 = .ok (.iconst 0, 1) := by decide +kernel
theorem zd_XReader_readLight_26 : decode zb_XReader_readLight 26 = .ok (.aload_n 0, 1) := by decide +kernel
theorem zd_XReader_readLight_27 : decode zb_XReader_readLight 27 = .ok (.getfield 23, 3) := by decide +kernel
theorem zd_XReader_readLight_30 : decode zb_XReader_readLight 30 = .ok (.getfield 273, 3) := by decide +kernel
theorem zd_XReader_readLight_33 : decode zb_XReader_readLight 33 = .ok (.iconst 0, 1) := by decide +kernel
theorem zd_XReader_readLight_34 : decode zb_XReader_readLight 34 = .ok (.iconst 3, 1) := by decide +kernel
theorem zd_XReader_readLight_35 : decode zb_XReader_readLight 35 = .ok (.invokestatic 169, 3) := by decide +kernel
theorem zd_XReader_readLight_38 : decode zb_XReader_readLight 38 = .ok (.aload_n 0, 1) := by decide +kernel
theorem zd_XReader_readLight_39 : decode zb_XReader_readLight 39 = .ok (.bipush 44, 2) := by decide +kernel
theorem zd_XReader_readLight_41 : decode zb_XReader_readLight 41 = .ok (.invokevirtual 45, 3) := by decide +kernel
theorem zd_XReader_readLight_44 : decode zb_XReader_readLight 44 = .ok (.aload_n 0, 1) := by decide +kernel
theorem zd_XReader_readLight_45 : decode zb_XReader_readLight 45 = .ok (.getfield 23, 3) := by decide +kernel
theorem zd_XReader_readLight_48 : decode zb_XReader_readLight 48 = .ok (.getfield 273, 3) := by decide +kernel
theorem zd_XReader_readLight_51 : decode zb_XReader_readLight 51 = .ok (.iconst 3, 1) := by decide +kernel
theorem zd_XReader_readLight_52 : decode zb_XReader_readLight 52 = .ok (.aload_n 0, 1) := by decide +kernel
theorem zd_XReader_readLight_53 : decode zb_XReader_readLight 53 = .ok (.ldc_w 276, 3) := by decide +kernel
theorem zd_XReader_readLight_56 : decode zb_XReader_readLight 56 = .ok (.iconst 0, 1) := by decide +kernel
theorem zd_XReader_readLight_57 : decode zb_XReader_readLight 57 = .ok (.ldc 197, 2) := by decide +kernel
theorem zd_XReader_readLight_59 : decode zb_XReader_readLight 59 = .ok (.invokevirtual 138, 3) := by decide +kernel
theorem zd_XReader_readLight_62 : decode zb_XReader_readLight 62 = .ok (.iastore, 1) := by decide +kernel
theorem zd_XReader_readLight_63 : decode zb_XReader_readLight 63 = .ok (.aload_n 0, 1) := by decide +kernel
theorem zd_XReader_readLight_64 : decode zb_XReader_readLight 64 = .ok (.bipush 125, 2) := by decide +kernel
theorem zd_XReader_readLight_66 : decode zb_XReader_readLight 66 = .ok (.invokevirtual 45, 3) := by decide +kernel
theorem zd_XReader_readLight_69 : decode zb_XReader_readLight 69 = .ok (.return_, 1) := by decide +kernel
theorem zw_306 : (Jvm.Cond.fieldLink "OrreryBox$Reader" (273 : Nat) "OrreryBox$Scene" "lamp" "[I") ∈ gw := gw_t 306 (by decide +kernel) rfl
def F_XReader_readLight (sh : zSh) (mm : zMem) (o : Nat) : Option zMem := zoS (sh o) 7 (fun le2 => Option.bind (F_XReader_need sh mm o 123) (fun p3 => zoS (sh o) 7 (fun le5 => Option.bind (F_XReader_numbers sh p3 o 13 3 3 (-65536) 65536 0) (fun p6 => zoS (sh o) 7 (fun le8 => Option.bind ((p6.2).2.2 o 2) (fun a9 => zoS (sh o) 7 (fun le11 => Option.bind ((p6.2).2.2 o 7) (fun a12 => zoS (sh a12) 8 (fun le14 => Option.bind ((p6.2).2.2 a12 7) (fun a15 => zoS (sh a9) 100 (fun le16 => zoS (sh a15) 100 (fun le18 => if ¬ (0 : Int32) < 0 ∧ ¬ (0 : Int32) < 0 ∧ ¬ (3 : Int32) < 0 ∧ (0 : Int32).toNatClampNeg + (3 : Int32).toNatClampNeg ≤ le16 ∧ (0 : Int32).toNatClampNeg + (3 : Int32).toNatClampNeg ≤ le18 then zoL (mC (p6.2) a9 a15 (0 : Int32).toNatClampNeg (0 : Int32).toNatClampNeg (3 : Int32).toNatClampNeg) (fun mm21 => zoS (sh o) 7 (fun le23 => Option.bind (F_XReader_need sh mm21 o 44) (fun p24 => zoS (sh o) 7 (fun le26 => Option.bind (p24.2.2 o 7) (fun a27 => zoS (sh a27) 8 (fun le29 => Option.bind (p24.2.2 a27 7) (fun a30 => zoS (sh o) 7 (fun le32 => Option.bind (F_XReader_number sh p24 o 14 0 65536) (fun p33 => zoS (sh a30) 100 (fun le35 => if (3 : Int32) < 0 ∨ le35 ≤ (3 : Int32).toNatClampNeg then none else zoL (mI (p33.2) a30 (3 : Int32).toNatClampNeg (p33.1)) (fun mm37 => zoS (sh o) 7 (fun le39 => Option.bind (F_XReader_need sh mm37 o 125) (fun p40 => some p40))))))))))))) else none))))))))))))
set_option maxHeartbeats 4000000 in
set_option maxRecDepth 100000 in
theorem k_XReader_readLight (l : Launch) (D : va_G) (tA : Nat → ClassId) (b : Nat) (sh : zSh) (n : Nat) {mm : zMem} {o : Nat} {r : zMem} (h : F_XReader_readLight sh mm o = some r) : zM l D tA b zy_XReader_readLight zb_XReader_readLight 1 none 7 158 0 0 [.ref (b + o)] (zW tA b sh mm) n (zE none (zW tA b sh r) n) := by
  unfold F_XReader_readLight at h
  refine zM_of (own := "OrreryBox$Reader") (plainFor_of_name (by decide)) rfl (Nat.le_of_ble_eq_true rfl) (fun p e s m below meth c F hr hin hH => ?_)
  refine zr_aload_n F zd_XReader_readLight_0 rfl ?_
  refine zr_bipushv (v := 123) F zd_XReader_readLight_1 (by decide) ?_
  obtain ⟨le2, hs1, h⟩ := zoS_s h
  obtain ⟨p3, ep3, h⟩ := zoB_s h
  refine zr_callV0 F (k_XReader_need l D tA b sh _ ep3) zd_XReader_readLight_3 (zW_o hs1 (by decide)) rfl zs_XReader_45 rfl zq_XReader_need rfl rfl ⟨(Nat.le_of_ble_eq_true rfl), (Nat.le_of_ble_eq_true rfl)⟩ (Nat.le_of_ble_eq_true rfl) ⟨(Nat.le_of_ble_eq_true rfl), (Nat.le_of_ble_eq_true rfl)⟩ ?_
  refine zr_aload_n F zd_XReader_readLight_6 rfl ?_
  refine zr_ldcSW F 13 "toward" zd_XReader_readLight_7 (by decide +kernel) ?_
  refine zr_iconstv (v := 3) F zd_XReader_readLight_10 (by decide) ?_
  refine zr_iconstv (v := 3) F zd_XReader_readLight_11 (by decide) ?_
  refine zr_pcn 12 rfl ?_
  refine zr_ldc F zd_XReader_readLight_12 zw_1216 ?_
  refine zr_ldc F zd_XReader_readLight_14 zw_1217 ?_
  refine zr_iconstv (v := 0) F zd_XReader_readLight_16 (by decide) ?_
  obtain ⟨le5, hs4, h⟩ := zoS_s h
  obtain ⟨p6, ep6, h⟩ := zoB_s h
  refine zr_callV1 F (k_XReader_numbers l D tA b sh _ ep6) zd_XReader_readLight_17 (zW_o hs4 (by decide)) rfl zs_XReader_160 rfl zq_XReader_numbers rfl rfl ⟨(Nat.le_of_ble_eq_true rfl), (Nat.le_of_ble_eq_true rfl)⟩ (Nat.le_of_ble_eq_true rfl) ⟨(Nat.le_of_ble_eq_true rfl), (Nat.le_of_ble_eq_true rfl)⟩ ?_
  refine zr_pop F zd_XReader_readLight_20 rfl ?_
  refine zr_aload_n F zd_XReader_readLight_21 rfl ?_
  obtain ⟨le8, hs7, h⟩ := zoS_s h
  obtain ⟨a9, ea9, h⟩ := zoB_s h
  refine zr_get F 7 2 zd_XReader_readLight_22 (zW_o hs7 (by decide)) rfl (by decide) zw_50 rfl (by rfl) ?_
  refine zr_tor ea9 ?_
  refine zr_iconstv (v := 0) F zd_XReader_readLight_25 (by decide) ?_
  refine zr_pcn 26 rfl ?_
  refine zr_aload_n F zd_XReader_readLight_26 rfl ?_
  obtain ⟨le11, hs10, h⟩ := zoS_s h
  obtain ⟨a12, ea12, h⟩ := zoB_s h
  refine zr_get F 7 7 zd_XReader_readLight_27 (zW_o hs10 (by decide)) rfl (by decide) zw_55 rfl (by rfl) ?_
  refine zr_tor ea12 ?_
  obtain ⟨le14, hs13, h⟩ := zoS_s h
  obtain ⟨a15, ea15, h⟩ := zoB_s h
  refine zr_get F 8 7 zd_XReader_readLight_30 (zW_o hs13 (by decide)) rfl (by decide) zw_306 rfl (by rfl) ?_
  refine zr_tor ea15 ?_
  refine zr_iconstv (v := 0) F zd_XReader_readLight_33 (by decide) ?_
  refine zr_iconstv (v := 3) F zd_XReader_readLight_34 (by decide) ?_
  obtain ⟨le16, hs17, h⟩ := zoS_s h
  obtain ⟨le18, hs19, h⟩ := zoS_s h
  obtain ⟨hc20, h⟩ := zoT_s h
  obtain ⟨mm21, emm21, h⟩ := zoL_s h
  refine zr_copy F zd_XReader_readLight_35 zw_1202 zw_724 zw_723 zw_26 (zW_a0 hs17) (zW_a0 hs19) hc20.1 hc20.2.1 hc20.2.2.1 hc20.2.2.2.1 hc20.2.2.2.2 (Nat.le_of_ble_eq_true rfl) (Nat.le_of_ble_eq_true rfl) ?_
  refine zr_norm (zW tA b sh mm21) _ (by rw [emm21]; exact zW_c hs19) rfl ?_
  refine zr_aload_n F zd_XReader_readLight_38 rfl ?_
  refine zr_bipushv (v := 44) F zd_XReader_readLight_39 (by decide) ?_
  refine zr_pcn 41 rfl ?_
  obtain ⟨le23, hs22, h⟩ := zoS_s h
  obtain ⟨p24, ep24, h⟩ := zoB_s h
  refine zr_callV0 F (k_XReader_need l D tA b sh _ ep24) zd_XReader_readLight_41 (zW_o hs22 (by decide)) rfl zs_XReader_45 rfl zq_XReader_need rfl rfl ⟨(Nat.le_of_ble_eq_true rfl), (Nat.le_of_ble_eq_true rfl)⟩ (Nat.le_of_ble_eq_true rfl) ⟨(Nat.le_of_ble_eq_true rfl), (Nat.le_of_ble_eq_true rfl)⟩ ?_
  refine zr_aload_n F zd_XReader_readLight_44 rfl ?_
  obtain ⟨le26, hs25, h⟩ := zoS_s h
  obtain ⟨a27, ea27, h⟩ := zoB_s h
  refine zr_get F 7 7 zd_XReader_readLight_45 (zW_o hs25 (by decide)) rfl (by decide) zw_55 rfl (by rfl) ?_
  refine zr_tor ea27 ?_
  obtain ⟨le29, hs28, h⟩ := zoS_s h
  obtain ⟨a30, ea30, h⟩ := zoB_s h
  refine zr_get F 8 7 zd_XReader_readLight_48 (zW_o hs28 (by decide)) rfl (by decide) zw_306 rfl (by rfl) ?_
  refine zr_tor ea30 ?_
  refine zr_iconstv (v := 3) F zd_XReader_readLight_51 (by decide) ?_
  refine zr_aload_n F zd_XReader_readLight_52 rfl ?_
  refine zr_ldcSW F 14 "ambient" zd_XReader_readLight_53 (by decide +kernel) ?_
  refine zr_iconstv (v := 0) F zd_XReader_readLight_56 (by decide) ?_
  refine zr_pcn 57 rfl ?_
  refine zr_ldc F zd_XReader_readLight_57 zw_1217 ?_
  obtain ⟨le32, hs31, h⟩ := zoS_s h
  obtain ⟨p33, ep33, h⟩ := zoB_s h
  refine zr_callV1 F (k_XReader_number l D tA b sh _ ep33) zd_XReader_readLight_59 (zW_o hs31 (by decide)) rfl zs_XReader_138 rfl zq_XReader_number rfl rfl ⟨(Nat.le_of_ble_eq_true rfl), (Nat.le_of_ble_eq_true rfl)⟩ (Nat.le_of_ble_eq_true rfl) ⟨(Nat.le_of_ble_eq_true rfl), (Nat.le_of_ble_eq_true rfl)⟩ ?_
  obtain ⟨le35, hs34, h⟩ := zoS_s h
  obtain ⟨hi36, h⟩ := zoI_s h
  refine zr_iast F zd_XReader_readLight_62 (zW_a0 hs34) hi36 ?_
  obtain ⟨mm37, emm37, h⟩ := zoL_s h
  refine zr_norm (zW tA b sh mm37) _ (by rw [emm37]; exact zW_s0 hs34) rfl ?_
  refine zr_aload_n F zd_XReader_readLight_63 rfl ?_
  refine zr_bipushv (v := 125) F zd_XReader_readLight_64 (by decide) ?_
  obtain ⟨le39, hs38, h⟩ := zoS_s h
  obtain ⟨p40, ep40, h⟩ := zoB_s h
  refine zr_callV0 F (k_XReader_need l D tA b sh _ ep40) zd_XReader_readLight_66 (zW_o hs38 (by decide)) rfl zs_XReader_45 rfl zq_XReader_need rfl rfl ⟨(Nat.le_of_ble_eq_true rfl), (Nat.le_of_ble_eq_true rfl)⟩ (Nat.le_of_ble_eq_true rfl) ⟨(Nat.le_of_ble_eq_true rfl), (Nat.le_of_ble_eq_true rfl)⟩ ?_
  obtain rfl := Option.some.inj h
  exact zr_vret F hr zd_XReader_readLight_69 (Nat.le_of_ble_eq_true rfl) (Nat.le_of_ble_eq_true rfl) ⟨rfl, rfl, rfl⟩
def T_XReader_readLight (sh : zSh) (mm : zMem) (o : Nat) : Option zMem := zoS (sh o) 7 (fun le2 => zoX (F_XReader_need sh mm o 123) (T_XReader_need sh mm o 123) (fun p3 => zoS (sh o) 7 (fun le5 => zoX (F_XReader_numbers sh p3 o 13 3 3 (-65536) 65536 0) (T_XReader_numbers sh p3 o 13 3 3 (-65536) 65536 0) (fun p6 => zoS (sh o) 7 (fun le8 => Option.bind ((p6.2).2.2 o 2) (fun a9 => zoS (sh o) 7 (fun le11 => Option.bind ((p6.2).2.2 o 7) (fun a12 => zoS (sh a12) 8 (fun le14 => Option.bind ((p6.2).2.2 a12 7) (fun a15 => zoS (sh a9) 100 (fun le16 => zoS (sh a15) 100 (fun le18 => if ¬ (0 : Int32) < 0 ∧ ¬ (0 : Int32) < 0 ∧ ¬ (3 : Int32) < 0 ∧ (0 : Int32).toNatClampNeg + (3 : Int32).toNatClampNeg ≤ le16 ∧ (0 : Int32).toNatClampNeg + (3 : Int32).toNatClampNeg ≤ le18 then zoL (mC (p6.2) a9 a15 (0 : Int32).toNatClampNeg (0 : Int32).toNatClampNeg (3 : Int32).toNatClampNeg) (fun mm21 => zoS (sh o) 7 (fun le23 => zoX (F_XReader_need sh mm21 o 44) (T_XReader_need sh mm21 o 44) (fun p24 => zoS (sh o) 7 (fun le26 => Option.bind (p24.2.2 o 7) (fun a27 => zoS (sh a27) 8 (fun le29 => Option.bind (p24.2.2 a27 7) (fun a30 => zoS (sh o) 7 (fun le32 => zoX (F_XReader_number sh p24 o 14 0 65536) (T_XReader_number sh p24 o 14 0 65536) (fun p33 => zoS (sh a30) 100 (fun le35 => if (3 : Int32) < 0 ∨ le35 ≤ (3 : Int32).toNatClampNeg then none else zoL (mI (p33.2) a30 (3 : Int32).toNatClampNeg (p33.1)) (fun mm37 => zoS (sh o) 7 (fun le39 => zoX (F_XReader_need sh mm37 o 125) (T_XReader_need sh mm37 o 125) (fun p40 => none))))))))))))) else none))))))))))))
set_option maxHeartbeats 4000000 in
set_option maxRecDepth 100000 in
theorem kT_XReader_readLight (l : Launch) (D : va_G) (tA : Nat → ClassId) (b : Nat) (sh : zSh) (n : Nat) (hl : l.stackTraces = false) {mm : zMem} {o : Nat} {r : zMem} (h : T_XReader_readLight sh mm o = some r) : zMT l D tA b zy_XReader_readLight zb_XReader_readLight 1 none 9 166 1 6 [.ref (b + o)] (zW tA b sh mm) n "java/lang/IllegalArgumentException" (zW tA b sh r) (n + 1) := by
  unfold T_XReader_readLight at h
  refine zMT_of (own := "OrreryBox$Reader") (plainFor_of_name (by decide)) rfl (Nat.le_of_ble_eq_true rfl) (fun p e s m below meth c F hno hH => ?_)
  refine zr_aload_n F zd_XReader_readLight_0 rfl ?_
  refine zr_bipushv (v := 123) F zd_XReader_readLight_1 (by decide) ?_
  obtain ⟨le2, hs1, h⟩ := zoS_s h
  cases ep3 : F_XReader_need sh mm o 123 with
  | none =>
    rw [ep3] at h
    dsimp only [zoX] at h
    exact zr_thrV F hno (kT_XReader_need l D tA b sh _ hl h) zd_XReader_readLight_3 (zW_o hs1 (by decide)) rfl zs_XReader_45 rfl zq_XReader_need rfl rfl ⟨(Nat.le_of_ble_eq_true rfl), (Nat.le_of_ble_eq_true rfl)⟩ (Nat.le_of_ble_eq_true rfl) ⟨(Nat.le_of_ble_eq_true rfl), (Nat.le_of_ble_eq_true rfl)⟩ ⟨(Nat.le_of_ble_eq_true rfl), (Nat.le_of_ble_eq_true rfl)⟩
  | some p3 =>
    rw [ep3] at h
    dsimp only [zoX] at h
    refine zr_callV0 F (k_XReader_need l D tA b sh _ ep3) zd_XReader_readLight_3 (zW_o hs1 (by decide)) rfl zs_XReader_45 rfl zq_XReader_need rfl rfl ⟨(Nat.le_of_ble_eq_true rfl), (Nat.le_of_ble_eq_true rfl)⟩ (Nat.le_of_ble_eq_true rfl) ⟨(Nat.le_of_ble_eq_true rfl), (Nat.le_of_ble_eq_true rfl)⟩ ?_
    refine zr_aload_n F zd_XReader_readLight_6 rfl ?_
    refine zr_ldcSW F 13 "toward" zd_XReader_readLight_7 (by decide +kernel) ?_
    refine zr_iconstv (v := 3) F zd_XReader_readLight_10 (by decide) ?_
    refine zr_iconstv (v := 3) F zd_XReader_readLight_11 (by decide) ?_
    refine zr_pcn 12 rfl ?_
    refine zr_ldc F zd_XReader_readLight_12 zw_1216 ?_
    refine zr_ldc F zd_XReader_readLight_14 zw_1217 ?_
    refine zr_iconstv (v := 0) F zd_XReader_readLight_16 (by decide) ?_
    obtain ⟨le5, hs4, h⟩ := zoS_s h
    cases ep6 : F_XReader_numbers sh p3 o 13 3 3 (-65536) 65536 0 with
    | none =>
      rw [ep6] at h
      dsimp only [zoX] at h
      exact zr_thrV F hno (kT_XReader_numbers l D tA b sh _ hl h) zd_XReader_readLight_17 (zW_o hs4 (by decide)) rfl zs_XReader_160 rfl zq_XReader_numbers rfl rfl ⟨(Nat.le_of_ble_eq_true rfl), (Nat.le_of_ble_eq_true rfl)⟩ (Nat.le_of_ble_eq_true rfl) ⟨(Nat.le_of_ble_eq_true rfl), (Nat.le_of_ble_eq_true rfl)⟩ ⟨(Nat.le_of_ble_eq_true rfl), (Nat.le_of_ble_eq_true rfl)⟩
    | some p6 =>
      rw [ep6] at h
      dsimp only [zoX] at h
      refine zr_callV1 F (k_XReader_numbers l D tA b sh _ ep6) zd_XReader_readLight_17 (zW_o hs4 (by decide)) rfl zs_XReader_160 rfl zq_XReader_numbers rfl rfl ⟨(Nat.le_of_ble_eq_true rfl), (Nat.le_of_ble_eq_true rfl)⟩ (Nat.le_of_ble_eq_true rfl) ⟨(Nat.le_of_ble_eq_true rfl), (Nat.le_of_ble_eq_true rfl)⟩ ?_
      refine zr_pop F zd_XReader_readLight_20 rfl ?_
      refine zr_aload_n F zd_XReader_readLight_21 rfl ?_
      obtain ⟨le8, hs7, h⟩ := zoS_s h
      obtain ⟨a9, ea9, h⟩ := zoB_s h
      refine zr_get F 7 2 zd_XReader_readLight_22 (zW_o hs7 (by decide)) rfl (by decide) zw_50 rfl (by rfl) ?_
      refine zr_tor ea9 ?_
      refine zr_iconstv (v := 0) F zd_XReader_readLight_25 (by decide) ?_
      refine zr_pcn 26 rfl ?_
      refine zr_aload_n F zd_XReader_readLight_26 rfl ?_
      obtain ⟨le11, hs10, h⟩ := zoS_s h
      obtain ⟨a12, ea12, h⟩ := zoB_s h
      refine zr_get F 7 7 zd_XReader_readLight_27 (zW_o hs10 (by decide)) rfl (by decide) zw_55 rfl (by rfl) ?_
      refine zr_tor ea12 ?_
      obtain ⟨le14, hs13, h⟩ := zoS_s h
      obtain ⟨a15, ea15, h⟩ := zoB_s h
      refine zr_get F 8 7 zd_XReader_readLight_30 (zW_o hs13 (by decide)) rfl (by decide) zw_306 rfl (by rfl) ?_
      refine zr_tor ea15 ?_
      refine zr_iconstv (v := 0) F zd_XReader_readLight_33 (by decide) ?_
      refine zr_iconstv (v := 3) F zd_XReader_readLight_34 (by decide) ?_
      obtain ⟨le16, hs17, h⟩ := zoS_s h
      obtain ⟨le18, hs19, h⟩ := zoS_s h
      obtain ⟨hc20, h⟩ := zoT_s h
      obtain ⟨mm21, emm21, h⟩ := zoL_s h
      refine zr_copy F zd_XReader_readLight_35 zw_1202 zw_724 zw_723 zw_26 (zW_a0 hs17) (zW_a0 hs19) hc20.1 hc20.2.1 hc20.2.2.1 hc20.2.2.2.1 hc20.2.2.2.2 (Nat.le_of_ble_eq_true rfl) (Nat.le_of_ble_eq_true rfl) ?_
      refine zr_norm (zW tA b sh mm21) _ (by rw [emm21]; exact zW_c hs19) rfl ?_
      refine zr_aload_n F zd_XReader_readLight_38 rfl ?_
      refine zr_bipushv (v := 44) F zd_XReader_readLight_39 (by decide) ?_
      refine zr_pcn 41 rfl ?_
      obtain ⟨le23, hs22, h⟩ := zoS_s h
      cases ep24 : F_XReader_need sh mm21 o 44 with
      | none =>
        rw [ep24] at h
        dsimp only [zoX] at h
        exact zr_thrV F hno (kT_XReader_need l D tA b sh _ hl h) zd_XReader_readLight_41 (zW_o hs22 (by decide)) rfl zs_XReader_45 rfl zq_XReader_need rfl rfl ⟨(Nat.le_of_ble_eq_true rfl), (Nat.le_of_ble_eq_true rfl)⟩ (Nat.le_of_ble_eq_true rfl) ⟨(Nat.le_of_ble_eq_true rfl), (Nat.le_of_ble_eq_true rfl)⟩ ⟨(Nat.le_of_ble_eq_true rfl), (Nat.le_of_ble_eq_true rfl)⟩
      | some p24 =>
        rw [ep24] at h
        dsimp only [zoX] at h
        refine zr_callV0 F (k_XReader_need l D tA b sh _ ep24) zd_XReader_readLight_41 (zW_o hs22 (by decide)) rfl zs_XReader_45 rfl zq_XReader_need rfl rfl ⟨(Nat.le_of_ble_eq_true rfl), (Nat.le_of_ble_eq_true rfl)⟩ (Nat.le_of_ble_eq_true rfl) ⟨(Nat.le_of_ble_eq_true rfl), (Nat.le_of_ble_eq_true rfl)⟩ ?_
        refine zr_aload_n F zd_XReader_readLight_44 rfl ?_
        obtain ⟨le26, hs25, h⟩ := zoS_s h
        obtain ⟨a27, ea27, h⟩ := zoB_s h
        refine zr_get F 7 7 zd_XReader_readLight_45 (zW_o hs25 (by decide)) rfl (by decide) zw_55 rfl (by rfl) ?_
        refine zr_tor ea27 ?_
        obtain ⟨le29, hs28, h⟩ := zoS_s h
        obtain ⟨a30, ea30, h⟩ := zoB_s h
        refine zr_get F 8 7 zd_XReader_readLight_48 (zW_o hs28 (by decide)) rfl (by decide) zw_306 rfl (by rfl) ?_
        refine zr_tor ea30 ?_
        refine zr_iconstv (v := 3) F zd_XReader_readLight_51 (by decide) ?_
        refine zr_aload_n F zd_XReader_readLight_52 rfl ?_
        refine zr_ldcSW F 14 "ambient" zd_XReader_readLight_53 (by decide +kernel) ?_
        refine zr_iconstv (v := 0) F zd_XReader_readLight_56 (by decide) ?_
        refine zr_pcn 57 rfl ?_
        refine zr_ldc F zd_XReader_readLight_57 zw_1217 ?_
        obtain ⟨le32, hs31, h⟩ := zoS_s h
        cases ep33 : F_XReader_number sh p24 o 14 0 65536 with
        | none =>
          rw [ep33] at h
          dsimp only [zoX] at h
          exact zr_thrV F hno (kT_XReader_number l D tA b sh _ hl h) zd_XReader_readLight_59 (zW_o hs31 (by decide)) rfl zs_XReader_138 rfl zq_XReader_number rfl rfl ⟨(Nat.le_of_ble_eq_true rfl), (Nat.le_of_ble_eq_true rfl)⟩ (Nat.le_of_ble_eq_true rfl) ⟨(Nat.le_of_ble_eq_true rfl), (Nat.le_of_ble_eq_true rfl)⟩ ⟨(Nat.le_of_ble_eq_true rfl), (Nat.le_of_ble_eq_true rfl)⟩
        | some p33 =>
          rw [ep33] at h
          dsimp only [zoX] at h
          refine zr_callV1 F (k_XReader_number l D tA b sh _ ep33) zd_XReader_readLight_59 (zW_o hs31 (by decide)) rfl zs_XReader_138 rfl zq_XReader_number rfl rfl ⟨(Nat.le_of_ble_eq_true rfl), (Nat.le_of_ble_eq_true rfl)⟩ (Nat.le_of_ble_eq_true rfl) ⟨(Nat.le_of_ble_eq_true rfl), (Nat.le_of_ble_eq_true rfl)⟩ ?_
          obtain ⟨le35, hs34, h⟩ := zoS_s h
          obtain ⟨hi36, h⟩ := zoI_s h
          refine zr_iast F zd_XReader_readLight_62 (zW_a0 hs34) hi36 ?_
          obtain ⟨mm37, emm37, h⟩ := zoL_s h
          refine zr_norm (zW tA b sh mm37) _ (by rw [emm37]; exact zW_s0 hs34) rfl ?_
          refine zr_aload_n F zd_XReader_readLight_63 rfl ?_
          refine zr_bipushv (v := 125) F zd_XReader_readLight_64 (by decide) ?_
          obtain ⟨le39, hs38, h⟩ := zoS_s h
          cases ep40 : F_XReader_need sh mm37 o 125 with
          | none =>
            rw [ep40] at h
            dsimp only [zoX] at h
            exact zr_thrV F hno (kT_XReader_need l D tA b sh _ hl h) zd_XReader_readLight_66 (zW_o hs38 (by decide)) rfl zs_XReader_45 rfl zq_XReader_need rfl rfl ⟨(Nat.le_of_ble_eq_true rfl), (Nat.le_of_ble_eq_true rfl)⟩ (Nat.le_of_ble_eq_true rfl) ⟨(Nat.le_of_ble_eq_true rfl), (Nat.le_of_ble_eq_true rfl)⟩ ⟨(Nat.le_of_ble_eq_true rfl), (Nat.le_of_ble_eq_true rfl)⟩
          | some p40 =>
            rw [ep40] at h
            dsimp only [zoX] at h
            refine zr_callV0 F (k_XReader_need l D tA b sh _ ep40) zd_XReader_readLight_66 (zW_o hs38 (by decide)) rfl zs_XReader_45 rfl zq_XReader_need rfl rfl ⟨(Nat.le_of_ble_eq_true rfl), (Nat.le_of_ble_eq_true rfl)⟩ (Nat.le_of_ble_eq_true rfl) ⟨(Nat.le_of_ble_eq_true rfl), (Nat.le_of_ble_eq_true rfl)⟩ ?_
            cases h
theorem zw_181 : (Jvm.Cond.fieldLink "OrreryBox$Sight" (158 : Nat) "OrreryBox$Mesh" "faceCount" "I") ∈ gw := gw_t 181 (by decide +kernel) rfl
theorem zw_718 : (Jvm.Cond.methodLink "OrreryBox$Sight" (161 : Nat) ({ cls := "OrreryBox$Sight", name := "cutFace", desc := "(LOrreryBox$Mesh;)V" } : Jvm.MethodName)) ∈ gw := gw_t 718 (by decide +kernel) rfl
theorem zw_720 : (Jvm.Cond.instanceMethod ({ cls := "OrreryBox$Sight", name := "cutFace", desc := "(LOrreryBox$Mesh;)V" } : Jvm.MethodName)) ∈ gw := gw_t 720 (by decide +kernel) rfl
theorem zv_11 : (Jvm.Cond.selects "OrreryBox$Sight" (⟨"OrreryBox$Sight", "cutFace", "(LOrreryBox$Mesh;)V"⟩ : MethodName) ⟨"OrreryBox$Sight", "cutFace", "(LOrreryBox$Mesh;)V"⟩) ∈ gw := gw_s 11 (by decide +kernel) rfl
theorem zs_XSight_161 : zwV "OrreryBox$Sight" 161 "OrreryBox$Sight" zy_XSight_cutFace zb_XSight_cutFace 4 none := ⟨zw_718, zw_720, zv_11, zw_10, zc_XSight_cutFace⟩
def L_XSight_nextFace_62 (sh : zSh) (fuel : Nat) (v0 : Nat) (v1 : Nat) (mm : zMem) : Option (Nat × Int32 × Nat × Nat × zMem) := match fuel with
  | 0 => none
  | fu + 1 => zoS (sh v0) 9 (fun le51 => zoS (sh v1) 2 (fun le53 => (if (mm.1 v1 2) ≤ (mm.1 v0 1) then some (1, (0 : Int32), v0, v1, mm) else zoS (sh v0) 9 (fun le56 => Option.bind (F_XSight_cutFace sh mm v0 v1) (fun p57 => zoS (sh v0) 9 (fun le59 => (if (p57.1 v0 3) < 3 then zoS (sh v0) 9 (fun le62 => zoL ((p57.1 v0 1) + 1) (fun x63 => zoS (sh v0) 9 (fun le65 => zoL (mI p57 v0 1 x63) (fun mm66 => L_XSight_nextFace_62 sh fu v0 v1 mm66)))) else some (0, 1, (0 : Nat), (0 : Nat), p57))))))))
set_option maxHeartbeats 4000000 in
set_option maxRecDepth 100000 in
theorem lp_XSight_nextFace_62 {p : Program} {l : Launch} {e : Env} {s : State} {m : MethodId} {args : Array Value} {below : List Frame} {meth : Method} {c : Code} {D : va_G} {tA : Nat → ClassId} {b n : Nat} {post : Option Value → zV → Nat → Prop} {sh : zSh} (F : zF p s m args meth c zb_XSight_nextFace 2 "OrreryBox$Sight" D tA b) (hr : meth.sig.returnType = (some .boolean)) : ∀ (fuel : Nat) (v0 : Nat) (v1 : Nat) (mm : zMem) (r : Nat × Int32 × Nat × Nat × zMem), L_XSight_nextFace_62 sh fuel v0 v1 mm = some r → (r.1 = 1 → Z p l e { frames := 4, cells := 0, slots := 0, locals := 113 } s m args below meth c D b 2 (MQ below (zQ D b post) args s 0 0 (fun q => b ≤ q)) (zW tA b sh r.2.2.2.2) n 0 0 101 [(0, .ref (b + (r.2.2.1))), (1, .ref (b + (r.2.2.2.1)))] []) → (r.1 = 0 → post (some (.int r.2.1)) (zW tA b sh r.2.2.2.2) n) → Z p l e { frames := 4, cells := 0, slots := 0, locals := 113 } s m args below meth c D b 2 (MQ below (zQ D b post) args s 0 0 (fun q => b ≤ q)) (zW tA b sh mm) n 0 0 62 [(0, .ref (b + v0)), (1, .ref (b + v1))] [] := by
  intro fuel
  induction fuel with
  | zero =>
    intro v0 v1 mm r h
    cases h
  | succ fu ih =>
    intro v0 v1 mm r h hx0 hp
    rw [L_XSight_nextFace_62] at h
    refine zr_aload_n F zd_XSight_nextFace_62 rfl ?_
    obtain ⟨le51, hs50, h⟩ := zoS_s h
    refine zr_get F 9 1 zd_XSight_nextFace_63 (zW_o hs50 (by decide)) rfl (by decide) zw_373 rfl (by rfl) ?_
    refine zr_pcn 66 rfl ?_
    refine zr_aload_n F zd_XSight_nextFace_66 rfl ?_
    obtain ⟨le53, hs52, h⟩ := zoS_s h
    refine zr_get F 2 2 zd_XSight_nextFace_67 (zW_o hs52 (by decide)) rfl (by decide) zw_181 rfl (by rfl) ?_
    refine zr_icmp_ge F 101 zd_XSight_nextFace_70 (by decide) (fun hb54 => ?_) (fun hb54 => ?_)
    ·
      rw [if_pos hb54] at h
      obtain rfl := Option.some.inj h
      refine zr_loc (L' := [(0, .ref (b + v0)), (1, .ref (b + v1))]) ⟨rfl, rfl, trivial⟩ ?_
      exact hx0 rfl
    ·
      rw [if_neg hb54] at h
      refine zr_aload_n F zd_XSight_nextFace_73 rfl ?_
      refine zr_aload_n F zd_XSight_nextFace_74 rfl ?_
      obtain ⟨le56, hs55, h⟩ := zoS_s h
      obtain ⟨p57, ep57, h⟩ := zoB_s h
      refine zr_callV0 F (k_XSight_cutFace l D tA b sh _ ep57) zd_XSight_nextFace_75 (zW_o hs55 (by decide)) rfl zs_XSight_161 rfl zq_XSight_cutFace rfl rfl ⟨(Nat.le_of_ble_eq_true rfl), (Nat.le_of_ble_eq_true rfl)⟩ (Nat.le_of_ble_eq_true rfl) ⟨(Nat.le_of_ble_eq_true rfl), (Nat.le_of_ble_eq_true rfl)⟩ ?_
      refine zr_aload_n F zd_XSight_nextFace_78 rfl ?_
      obtain ⟨le59, hs58, h⟩ := zoS_s h
      refine zr_get F 9 3 zd_XSight_nextFace_79 (zW_o hs58 (by decide)) rfl (by decide) zw_376 rfl (by rfl) ?_
      refine zr_pcn 82 rfl ?_
      refine zr_iconstv (v := 3) F zd_XSight_nextFace_82 (by decide) ?_
      refine zr_icmp_lt F 88 zd_XSight_nextFace_83 (by decide) (fun hb60 => ?_) (fun hb60 => ?_)
      ·
        rw [if_pos hb60] at h
        refine zr_aload_n F zd_XSight_nextFace_88 rfl ?_
        refine zr_dup F zd_XSight_nextFace_89 rfl ?_
        obtain ⟨le62, hs61, h⟩ := zoS_s h
        refine zr_get F 9 1 zd_XSight_nextFace_90 (zW_o hs61 (by decide)) rfl (by decide) zw_373 rfl (by rfl) ?_
        refine zr_iconstv (v := 1) F zd_XSight_nextFace_93 (by decide) ?_
        refine zr_iadd F zd_XSight_nextFace_94 ?_
        obtain ⟨x63, ex63, h⟩ := zoL_s h
        rw [← ex63]
        obtain ⟨le65, hs64, h⟩ := zoS_s h
        refine zr_put F 9 1 zd_XSight_nextFace_95 (zW_o hs64 (by decide)) rfl (by decide) zw_373 rfl rfl rfl rfl (by exact (Nat.le_of_ble_eq_true rfl)) ?_
        obtain ⟨mm66, emm66, h⟩ := zoL_s h
        refine zr_norm (zW tA b sh mm66) _ (by rw [emm66]; exact zW_pI (v := x63) hs64 (by decide) (zf_I_9_1 b _ _ _)) rfl ?_
        refine zr_pcn 98 rfl ?_
        refine zr_goto F 62 zd_XSight_nextFace_98 (by decide) ?_
        refine zr_loc (L' := [(0, .ref (b + v0)), (1, .ref (b + v1))]) ⟨rfl, rfl, trivial⟩ ?_
        exact ih _ _ _ _ h hx0 hp
      ·
        rw [if_neg hb60] at h
        refine zr_iconstv (v := 1) F zd_XSight_nextFace_86 (by decide) ?_
        obtain rfl := Option.some.inj h
        exact zr_zret F hr rfl zd_XSight_nextFace_87 (Nat.le_of_ble_eq_true rfl) (Nat.le_of_ble_eq_true rfl) (hp rfl)
theorem zw_706 : (Jvm.Cond.methodLink "OrreryBox$Sight" (154 : Nat) ({ cls := "OrreryBox$Sight", name := "standPoints", desc := "(LOrreryBox$Mesh;)V" } : Jvm.MethodName)) ∈ gw := gw_t 706 (by decide +kernel) rfl
theorem zw_708 : (Jvm.Cond.instanceMethod ({ cls := "OrreryBox$Sight", name := "standPoints", desc := "(LOrreryBox$Mesh;)V" } : Jvm.MethodName)) ∈ gw := gw_t 708 (by decide +kernel) rfl
theorem zv_9 : (Jvm.Cond.selects "OrreryBox$Sight" (⟨"OrreryBox$Sight", "standPoints", "(LOrreryBox$Mesh;)V"⟩ : MethodName) ⟨"OrreryBox$Sight", "standPoints", "(LOrreryBox$Mesh;)V"⟩) ∈ gw := gw_s 9 (by decide +kernel) rfl
theorem zs_XSight_154 : zwV "OrreryBox$Sight" 154 "OrreryBox$Sight" zy_XSight_standPoints zb_XSight_standPoints 9 none := ⟨zw_706, zw_708, zv_9, zw_10, zc_XSight_standPoints⟩
def L_XSight_nextFace_0 (sh : zSh) (fuel : Nat) (v0 : Nat) (mm : zMem) : Option (Nat × Int32 × Nat × zMem) := match fuel with
  | 0 => none
  | fu + 1 => zoS (sh v0) 9 (fun le2 => zoS (sh v0) 9 (fun le4 => (if (mm.1 v0 11) ≤ (mm.1 v0 12) then some (1, (0 : Int32), v0, mm) else zoS (sh v0) 9 (fun le7 => Option.bind (mm.2.2 v0 7) (fun a8 => zoS (sh a8) 8 (fun le10 => Option.bind (mm.2.2 a8 3) (fun a11 => zoS (sh v0) 9 (fun le13 => Option.bind (mm.2.2 v0 7) (fun a14 => zoS (sh a14) 8 (fun le16 => Option.bind (mm.2.2 a14 4) (fun a17 => zoS (sh v0) 9 (fun le19 => Option.bind (mm.2.2 v0 10) (fun a20 => zoS (sh v0) 9 (fun le22 => zoL (mm.1 v0 12) (fun i23 => zoS (sh a20) 100 (fun le25 => if (i23 : Int32) < 0 ∨ le25 ≤ (i23 : Int32).toNatClampNeg then none else zoL (mm.1 a20 (i23 : Int32).toNatClampNeg) (fun i27 => zoR (sh a17) (fun t31 le29 => if (i27 : Int32) < 0 ∨ le29 ≤ (i27 : Int32).toNatClampNeg then none else Option.bind (mm.2.2 a17 (i27 : Int32).toNatClampNeg) (fun a32 => zoS (sh a32) 3 (fun le34 => zoL (mm.1 a32 1) (fun i35 => zoR (sh a11) (fun t39 le37 => if (i35 : Int32) < 0 ∨ le37 ≤ (i35 : Int32).toNatClampNeg then none else Option.bind (mm.2.2 a11 (i35 : Int32).toNatClampNeg) (fun a40 => zoS (sh v0) 9 (fun le42 => (if 0 ≤ (mm.1 v0 1) then zoS (sh v0) 9 (fun le45 => zoL ((mm.1 v0 1) + 1) (fun x46 => zoS (sh v0) 9 (fun le48 => zoL (mI mm v0 1 x46) (fun mm49 => Option.bind (L_XSight_nextFace_62 sh zfuel v0 a40 mm49) (fun q67 => (if q67.1 = 1 then zoS (sh (q67.2.2.1)) 9 (fun le69 => zoL (mI (q67.2.2.2.2) (q67.2.2.1) 1 (-1)) (fun mm70 => zoS (sh (q67.2.2.1)) 9 (fun le72 => zoL ((mm70.1 (q67.2.2.1) 12) + 1) (fun x73 => zoS (sh (q67.2.2.1)) 9 (fun le75 => zoL (mI mm70 (q67.2.2.1) 12 x73) (fun mm76 => L_XSight_nextFace_0 sh fu (q67.2.2.1) mm76)))))) else some (0, q67.2.1, (0 : Nat), q67.2.2.2.2))))))) else zoS (sh v0) 9 (fun le78 => Option.bind (F_XSight_standPoints sh mm v0 a40) (fun p79 => zoS (sh v0) 9 (fun le81 => zoL ((p79.1 v0 1) + 1) (fun x82 => zoS (sh v0) 9 (fun le84 => zoL (mI p79 v0 1 x82) (fun mm85 => Option.bind (L_XSight_nextFace_62 sh zfuel v0 a40 mm85) (fun q86 => (if q86.1 = 1 then zoS (sh (q86.2.2.1)) 9 (fun le88 => zoL (mI (q86.2.2.2.2) (q86.2.2.1) 1 (-1)) (fun mm89 => zoS (sh (q86.2.2.1)) 9 (fun le91 => zoL ((mm89.1 (q86.2.2.1) 12) + 1) (fun x92 => zoS (sh (q86.2.2.1)) 9 (fun le94 => zoL (mI mm89 (q86.2.2.1) 12 x92) (fun mm95 => L_XSight_nextFace_0 sh fu (q86.2.2.1) mm95)))))) else some (0, q86.2.1, (0 : Nat), q86.2.2.2.2))))))))))))))))))))))))))))))))))
set_option maxHeartbeats 4000000 in
set_option maxRecDepth 100000 in
theorem lp_XSight_nextFace_0 {p : Program} {l : Launch} {e : Env} {s : State} {m : MethodId} {args : Array Value} {below : List Frame} {meth : Method} {c : Code} {D : va_G} {tA : Nat → ClassId} {b n : Nat} {post : Option Value → zV → Nat → Prop} {sh : zSh} (F : zF p s m args meth c zb_XSight_nextFace 2 "OrreryBox$Sight" D tA b) (hr : meth.sig.returnType = (some .boolean)) : ∀ (fuel : Nat) (v0 : Nat) (mm : zMem) (r : Nat × Int32 × Nat × zMem), L_XSight_nextFace_0 sh fuel v0 mm = some r → (r.1 = 1 → Z p l e { frames := 4, cells := 0, slots := 0, locals := 113 } s m args below meth c D b 2 (MQ below (zQ D b post) args s 0 0 (fun q => b ≤ q)) (zW tA b sh r.2.2.2) n 0 0 119 [(0, .ref (b + (r.2.2.1)))] []) → (r.1 = 0 → post (some (.int r.2.1)) (zW tA b sh r.2.2.2) n) → Z p l e { frames := 4, cells := 0, slots := 0, locals := 113 } s m args below meth c D b 2 (MQ below (zQ D b post) args s 0 0 (fun q => b ≤ q)) (zW tA b sh mm) n 0 0 0 [(0, .ref (b + v0))] [] := by
  intro fuel
  induction fuel with
  | zero =>
    intro v0 mm r h
    cases h
  | succ fu ih =>
    intro v0 mm r h hx0 hp
    rw [L_XSight_nextFace_0] at h
    refine zr_aload_n F zd_XSight_nextFace_0 rfl ?_
    obtain ⟨le2, hs1, h⟩ := zoS_s h
    refine zr_get F 9 12 zd_XSight_nextFace_1 (zW_o hs1 (by decide)) rfl (by decide) zw_385 rfl (by rfl) ?_
    refine zr_aload_n F zd_XSight_nextFace_4 rfl ?_
    obtain ⟨le4, hs3, h⟩ := zoS_s h
    refine zr_get F 9 11 zd_XSight_nextFace_5 (zW_o hs3 (by decide)) rfl (by decide) zw_384 rfl (by rfl) ?_
    refine zr_icmp_ge F 119 zd_XSight_nextFace_8 (by decide) (fun hb5 => ?_) (fun hb5 => ?_)
    ·
      rw [if_pos hb5] at h
      obtain rfl := Option.some.inj h
      refine zr_loc (L' := [(0, .ref (b + v0))]) ⟨rfl, trivial⟩ ?_
      exact hx0 rfl
    ·
      rw [if_neg hb5] at h
      refine zr_aload_n F zd_XSight_nextFace_11 rfl ?_
      obtain ⟨le7, hs6, h⟩ := zoS_s h
      obtain ⟨a8, ea8, h⟩ := zoB_s h
      refine zr_get F 9 7 zd_XSight_nextFace_12 (zW_o hs6 (by decide)) rfl (by decide) zw_380 rfl (by rfl) ?_
      refine zr_tor ea8 ?_
      refine zr_pcn 15 rfl ?_
      obtain ⟨le10, hs9, h⟩ := zoS_s h
      obtain ⟨a11, ea11, h⟩ := zoB_s h
      refine zr_get F 8 3 zd_XSight_nextFace_15 (zW_o hs9 (by decide)) rfl (by decide) zw_294 rfl (by rfl) ?_
      refine zr_tor ea11 ?_
      refine zr_aload_n F zd_XSight_nextFace_18 rfl ?_
      obtain ⟨le13, hs12, h⟩ := zoS_s h
      obtain ⟨a14, ea14, h⟩ := zoB_s h
      refine zr_get F 9 7 zd_XSight_nextFace_19 (zW_o hs12 (by decide)) rfl (by decide) zw_380 rfl (by rfl) ?_
      refine zr_tor ea14 ?_
      obtain ⟨le16, hs15, h⟩ := zoS_s h
      obtain ⟨a17, ea17, h⟩ := zoB_s h
      refine zr_get F 8 4 zd_XSight_nextFace_22 (zW_o hs15 (by decide)) rfl (by decide) zw_296 rfl (by rfl) ?_
      refine zr_tor ea17 ?_
      refine zr_aload_n F zd_XSight_nextFace_25 rfl ?_
      obtain ⟨le19, hs18, h⟩ := zoS_s h
      obtain ⟨a20, ea20, h⟩ := zoB_s h
      refine zr_get F 9 10 zd_XSight_nextFace_26 (zW_o hs18 (by decide)) rfl (by decide) zw_383 rfl (by rfl) ?_
      refine zr_tor ea20 ?_
      refine zr_aload_n F zd_XSight_nextFace_29 rfl ?_
      obtain ⟨le22, hs21, h⟩ := zoS_s h
      refine zr_get F 9 12 zd_XSight_nextFace_30 (zW_o hs21 (by decide)) rfl (by decide) zw_385 rfl (by rfl) ?_
      refine zr_pcn 33 rfl ?_
      obtain ⟨i23, ei23, h⟩ := zoL_s h
      rw [← ei23]
      obtain ⟨le25, hs24, h⟩ := zoS_s h
      obtain ⟨hi26, h⟩ := zoI_s h
      refine zr_iald F zd_XSight_nextFace_33 (zW_a0 hs24) hi26 ?_
      obtain ⟨i27, ei27, h⟩ := zoL_s h
      rw [← ei27]
      obtain ⟨t31, le29, hs28, h⟩ := zoR_s h
      obtain ⟨hi30, h⟩ := zoI_s h
      obtain ⟨a32, ea32, h⟩ := zoB_s h
      refine zr_aaldW F zd_XSight_nextFace_34 hs28 hi30 ea32 ?_
      obtain ⟨le34, hs33, h⟩ := zoS_s h
      refine zr_get F 3 1 zd_XSight_nextFace_35 (zW_o hs33 (by decide)) rfl (by decide) zw_217 rfl (by rfl) ?_
      obtain ⟨i35, ei35, h⟩ := zoL_s h
      rw [← ei35]
      obtain ⟨t39, le37, hs36, h⟩ := zoR_s h
      obtain ⟨hi38, h⟩ := zoI_s h
      obtain ⟨a40, ea40, h⟩ := zoB_s h
      refine zr_aaldW F zd_XSight_nextFace_38 hs36 hi38 ea40 ?_
      refine zr_astore_n F zd_XSight_nextFace_39 (by decide) ?_
      refine zr_aload_n F zd_XSight_nextFace_40 rfl ?_
      obtain ⟨le42, hs41, h⟩ := zoS_s h
      refine zr_get F 9 1 zd_XSight_nextFace_41 (zW_o hs41 (by decide)) rfl (by decide) zw_373 rfl (by rfl) ?_
      refine zr_if_ge F 52 zd_XSight_nextFace_44 (by decide) (fun hb43 => ?_) (fun hb43 => ?_)
      ·
        rw [if_pos hb43] at h
        refine zr_pcn 52 rfl ?_
        refine zr_aload_n F zd_XSight_nextFace_52 rfl ?_
        refine zr_dup F zd_XSight_nextFace_53 rfl ?_
        obtain ⟨le45, hs44, h⟩ := zoS_s h
        refine zr_get F 9 1 zd_XSight_nextFace_54 (zW_o hs44 (by decide)) rfl (by decide) zw_373 rfl (by rfl) ?_
        refine zr_iconstv (v := 1) F zd_XSight_nextFace_57 (by decide) ?_
        refine zr_iadd F zd_XSight_nextFace_58 ?_
        obtain ⟨x46, ex46, h⟩ := zoL_s h
        rw [← ex46]
        obtain ⟨le48, hs47, h⟩ := zoS_s h
        refine zr_put F 9 1 zd_XSight_nextFace_59 (zW_o hs47 (by decide)) rfl (by decide) zw_373 rfl rfl rfl rfl (by exact (Nat.le_of_ble_eq_true rfl)) ?_
        obtain ⟨mm49, emm49, h⟩ := zoL_s h
        refine zr_norm (zW tA b sh mm49) _ (by rw [emm49]; exact zW_pI (v := x46) hs47 (by decide) (zf_I_9_1 b _ _ _)) rfl ?_
        obtain ⟨q67, eq67, h⟩ := zoB_s h
        refine zr_loc (L' := [(0, .ref (b + v0)), (1, .ref (b + a40))]) ⟨rfl, rfl, trivial⟩ ?_
        refine lp_XSight_nextFace_62 F hr _ _ _ _ _ eq67 ?_ ?_
        ·
          intro ec
          rw [if_pos ec] at h
          refine zr_aload_n F zd_XSight_nextFace_101 rfl ?_
          refine zr_iconstv (v := (-1)) F zd_XSight_nextFace_102 (by decide) ?_
          obtain ⟨le69, hs68, h⟩ := zoS_s h
          refine zr_put F 9 1 zd_XSight_nextFace_103 (zW_o hs68 (by decide)) rfl (by decide) zw_373 rfl rfl rfl rfl (by exact (Nat.le_of_ble_eq_true rfl)) ?_
          obtain ⟨mm70, emm70, h⟩ := zoL_s h
          refine zr_norm (zW tA b sh mm70) _ (by rw [emm70]; exact zW_pI (v := (-1)) hs68 (by decide) (zf_I_9_1 b _ _ _)) rfl ?_
          refine zr_aload_n F zd_XSight_nextFace_106 rfl ?_
          refine zr_dup F zd_XSight_nextFace_107 rfl ?_
          refine zr_pcn 108 rfl ?_
          obtain ⟨le72, hs71, h⟩ := zoS_s h
          refine zr_get F 9 12 zd_XSight_nextFace_108 (zW_o hs71 (by decide)) rfl (by decide) zw_385 rfl (by rfl) ?_
          refine zr_iconstv (v := 1) F zd_XSight_nextFace_111 (by decide) ?_
          refine zr_iadd F zd_XSight_nextFace_112 ?_
          obtain ⟨x73, ex73, h⟩ := zoL_s h
          rw [← ex73]
          obtain ⟨le75, hs74, h⟩ := zoS_s h
          refine zr_put F 9 12 zd_XSight_nextFace_113 (zW_o hs74 (by decide)) rfl (by decide) zw_385 rfl rfl rfl rfl (by exact (Nat.le_of_ble_eq_true rfl)) ?_
          obtain ⟨mm76, emm76, h⟩ := zoL_s h
          refine zr_norm (zW tA b sh mm76) _ (by rw [emm76]; exact zW_pI (v := x73) hs74 (by decide) (zf_I_9_12 b _ _ _)) rfl ?_
          refine zr_goto F 0 zd_XSight_nextFace_116 (by decide) ?_
          refine zr_loc (L' := [(0, .ref (b + (q67.2.2.1)))]) ⟨rfl, trivial⟩ ?_
          exact ih _ _ _ h hx0 hp
        ·
          intro ec
          rw [if_neg (by rw [ec]; decide)] at h
          obtain rfl := Option.some.inj h
          exact hp rfl
      ·
        rw [if_neg hb43] at h
        refine zr_aload_n F zd_XSight_nextFace_47 rfl ?_
        refine zr_aload_n F zd_XSight_nextFace_48 rfl ?_
        obtain ⟨le78, hs77, h⟩ := zoS_s h
        obtain ⟨p79, ep79, h⟩ := zoB_s h
        refine zr_callV0 F (k_XSight_standPoints l D tA b sh _ ep79) zd_XSight_nextFace_49 (zW_o hs77 (by decide)) rfl zs_XSight_154 rfl zq_XSight_standPoints rfl rfl ⟨(Nat.le_of_ble_eq_true rfl), (Nat.le_of_ble_eq_true rfl)⟩ (Nat.le_of_ble_eq_true rfl) ⟨(Nat.le_of_ble_eq_true rfl), (Nat.le_of_ble_eq_true rfl)⟩ ?_
        refine zr_pcn 52 rfl ?_
        refine zr_aload_n F zd_XSight_nextFace_52 rfl ?_
        refine zr_dup F zd_XSight_nextFace_53 rfl ?_
        obtain ⟨le81, hs80, h⟩ := zoS_s h
        refine zr_get F 9 1 zd_XSight_nextFace_54 (zW_o hs80 (by decide)) rfl (by decide) zw_373 rfl (by rfl) ?_
        refine zr_iconstv (v := 1) F zd_XSight_nextFace_57 (by decide) ?_
        refine zr_iadd F zd_XSight_nextFace_58 ?_
        obtain ⟨x82, ex82, h⟩ := zoL_s h
        rw [← ex82]
        obtain ⟨le84, hs83, h⟩ := zoS_s h
        refine zr_put F 9 1 zd_XSight_nextFace_59 (zW_o hs83 (by decide)) rfl (by decide) zw_373 rfl rfl rfl rfl (by exact (Nat.le_of_ble_eq_true rfl)) ?_
        obtain ⟨mm85, emm85, h⟩ := zoL_s h
        refine zr_norm (zW tA b sh mm85) _ (by rw [emm85]; exact zW_pI (v := x82) hs83 (by decide) (zf_I_9_1 b _ _ _)) rfl ?_
        obtain ⟨q86, eq86, h⟩ := zoB_s h
        refine zr_loc (L' := [(0, .ref (b + v0)), (1, .ref (b + a40))]) ⟨rfl, rfl, trivial⟩ ?_
        refine lp_XSight_nextFace_62 F hr _ _ _ _ _ eq86 ?_ ?_
        ·
          intro ec
          rw [if_pos ec] at h
          refine zr_aload_n F zd_XSight_nextFace_101 rfl ?_
          refine zr_iconstv (v := (-1)) F zd_XSight_nextFace_102 (by decide) ?_
          refine zr_pcn 103 rfl ?_
          obtain ⟨le88, hs87, h⟩ := zoS_s h
          refine zr_put F 9 1 zd_XSight_nextFace_103 (zW_o hs87 (by decide)) rfl (by decide) zw_373 rfl rfl rfl rfl (by exact (Nat.le_of_ble_eq_true rfl)) ?_
          obtain ⟨mm89, emm89, h⟩ := zoL_s h
          refine zr_norm (zW tA b sh mm89) _ (by rw [emm89]; exact zW_pI (v := (-1)) hs87 (by decide) (zf_I_9_1 b _ _ _)) rfl ?_
          refine zr_aload_n F zd_XSight_nextFace_106 rfl ?_
          refine zr_dup F zd_XSight_nextFace_107 rfl ?_
          obtain ⟨le91, hs90, h⟩ := zoS_s h
          refine zr_get F 9 12 zd_XSight_nextFace_108 (zW_o hs90 (by decide)) rfl (by decide) zw_385 rfl (by rfl) ?_
          refine zr_iconstv (v := 1) F zd_XSight_nextFace_111 (by decide) ?_
          refine zr_iadd F zd_XSight_nextFace_112 ?_
          obtain ⟨x92, ex92, h⟩ := zoL_s h
          rw [← ex92]
          obtain ⟨le94, hs93, h⟩ := zoS_s h
          refine zr_put F 9 12 zd_XSight_nextFace_113 (zW_o hs93 (by decide)) rfl (by decide) zw_385 rfl rfl rfl rfl (by exact (Nat.le_of_ble_eq_true rfl)) ?_
          obtain ⟨mm95, emm95, h⟩ := zoL_s h
          refine zr_norm (zW tA b sh mm95) _ (by rw [emm95]; exact zW_pI (v := x92) hs93 (by decide) (zf_I_9_12 b _ _ _)) rfl ?_
          refine zr_goto F 0 zd_XSight_nextFace_116 (by decide) ?_
          refine zr_loc (L' := [(0, .ref (b + (q86.2.2.1)))]) ⟨rfl, trivial⟩ ?_
          exact ih _ _ _ h hx0 hp
        ·
          intro ec
          rw [if_neg (by rw [ec]; decide)] at h
          obtain rfl := Option.some.inj h
          exact hp rfl
def F_XSight_nextFace (sh : zSh) (mm : zMem) (o : Nat) : Option (Int32 × zMem) := Option.bind (L_XSight_nextFace_0 sh zfuel o mm) (fun q96 => (if q96.1 = 1 then some (0, q96.2.2.2) else some (q96.2.1, q96.2.2.2)))
set_option maxHeartbeats 4000000 in
set_option maxRecDepth 100000 in
theorem k_XSight_nextFace (l : Launch) (D : va_G) (tA : Nat → ClassId) (b : Nat) (sh : zSh) (n : Nat) {mm : zMem} {o : Nat} {r : (Int32 × zMem)} (h : F_XSight_nextFace sh mm o = some r) : zM l D tA b zy_XSight_nextFace zb_XSight_nextFace 2 (some .boolean) 4 113 0 0 [.ref (b + o)] (zW tA b sh mm) n (zE (some (.int (r.1))) (zW tA b sh r.2) n) := by
  unfold F_XSight_nextFace at h
  refine zM_of (own := "OrreryBox$Sight") (plainFor_of_name (by decide)) rfl (Nat.le_of_ble_eq_true rfl) (fun p e s m below meth c F hr hin hH => ?_)
  obtain ⟨q96, eq96, h⟩ := zoB_s h
  refine zr_loc (L' := [(0, .ref (b + o))]) ⟨rfl, trivial⟩ ?_
  refine lp_XSight_nextFace_0 F hr _ _ _ _ eq96 ?_ ?_
  ·
    intro ec
    rw [if_pos ec] at h
    refine zr_pcn 119 rfl ?_
    refine zr_iconstv (v := 0) F zd_XSight_nextFace_119 (by decide) ?_
    obtain rfl := Option.some.inj h
    exact zr_zret F hr rfl zd_XSight_nextFace_120 (Nat.le_of_ble_eq_true rfl) (Nat.le_of_ble_eq_true rfl) ⟨rfl, rfl, rfl⟩
  ·
    intro ec
    rw [if_neg (by rw [ec]; decide)] at h
    obtain rfl := Option.some.inj h
    exact ⟨rfl, rfl, rfl⟩
abbrev zb_XTexture_colourAt : ByteArray := prog_11_method_6_code
def zy_XTexture_colourAt : MethodName := ⟨"OrreryBox$Texture", "colourAt", "(IJJ)I"⟩
theorem zc_XTexture_colourAt : Cond.code zy_XTexture_colourAt zb_XTexture_colourAt 8 (some .int) ∈ gw := gw_t 842 (by decide +kernel) rfl
theorem zq_XTexture_colourAt : zy_XTexture_colourAt.cls ≠ "java/lang/invoke/MethodHandle" ∧ zy_XTexture_colourAt.cls ≠ "java/lang/invoke/VarHandle" ∧ (parseMethodDescriptor zy_XTexture_colourAt.desc).map (fun d => d.parameters.length) = some 3 := by decide +kernel
theorem zd_XTexture_colourAt_0 : decode zb_XTexture_colourAt 0 = .ok (.aload_n 0, 1) := by decide +kernel
theorem zd_XTexture_colourAt_1 : decode zb_XTexture_colourAt 1 = .ok (.getfield 16, 3) := by decide +kernel
theorem zd_XTexture_colourAt_4 : decode zb_XTexture_colourAt 4 = .ok (.iload_n 1, 1) := by decide +kernel
theorem zd_XTexture_colourAt_5 : decode zb_XTexture_colourAt 5 = .ok (.ishr, 1) := by decide +kernel
theorem zd_XTexture_colourAt_6 : decode zb_XTexture_colourAt 6 = .ok (.istore 6, 2) := by decide +kernel
theorem zd_XTexture_colourAt_8 : decode zb_XTexture_colourAt 8 = .ok (.aload_n 0, 1) := by decide +kernel
theorem zd_XTexture_colourAt_9 : decode zb_XTexture_colourAt 9 = .ok (.getfield 13, 3) := by decide +kernel
theorem zd_XTexture_colourAt_12 : decode zb_XTexture_colourAt 12 = .ok (.iload_n 1, 1) := by decide +kernel
theorem zd_XTexture_colourAt_13 : decode zb_XTexture_colourAt 13 = .ok (.iaload, 1) := by decide +kernel
theorem zd_XTexture_colourAt_14 : decode zb_XTexture_colourAt 14 = .ok (.istore 7, 2) := by decide +kernel
theorem zd_XTexture_colourAt_16 : decode zb_XTexture_colourAt 16 = .ok (.aload_n 0, 1) := by decide +kernel
theorem zd_XTexture_colourAt_17 : decode zb_XTexture_colourAt 17 = .ok (.getfield 35, 3) := by decide +kernel
theorem zd_XTexture_colourAt_20 : decode zb_XTexture_colourAt 20 = .ok (.ifCond .eq 33, 3) := by decide +kernel
theorem zd_XTexture_colourAt_23 : decode zb_XTexture_colourAt 23 = .ok (.aload_n 0, 1) := by decide +kernel
theorem zd_XTexture_colourAt_24 : decode zb_XTexture_colourAt 24 = .ok (.iload 7, 2) := by decide +kernel
theorem zd_XTexture_colourAt_26 : decode zb_XTexture_colourAt 26 = .ok (.iload 6, 2) := by decide +kernel
theorem zd_XTexture_colourAt_28 : decode zb_XTexture_colourAt 28 = .ok (.lload_n 2, 1) := by decide +kernel
theorem zd_XTexture_colourAt_29 : decode zb_XTexture_colourAt 29 = .ok (.iload 6, 2) := by decide +kernel
theorem zd_XTexture_colourAt_31 : decode zb_XTexture_colourAt 31 = .ok (.i2l, 1) := by decide +kernel
theorem zd_XTexture_colourAt_32 : decode zb_XTexture_colourAt 32 = .ok (.lmul, 1) := by decide +kernel
theorem zd_XTexture_colourAt_33 : decode zb_XTexture_colourAt 33 = .ok (.ldc2_w 39, 3) := by decide +kernel
theorem zd_XTexture_colourAt_36 : decode zb_XTexture_colourAt 36 = .ok (.lsub, 1) := by decide +kernel
theorem zd_XTexture_colourAt_37 : decode zb_XTexture_colourAt 37 = .ok (.lload 4, 2) := by decide +kernel
theorem zd_XTexture_colourAt_39 : decode zb_XTexture_colourAt 39 = .ok (.iload 6, 2) := by decide +kernel
theorem zd_XTexture_colourAt_41 : decode zb_XTexture_colourAt 41 = .ok (.i2l, 1) := by decide +kernel
theorem zd_XTexture_colourAt_42 : decode zb_XTexture_colourAt 42 = .ok (.lmul, 1) := by decide +kernel
theorem zd_XTexture_colourAt_43 : decode zb_XTexture_colourAt 43 = .ok (.ldc2_w 39, 3) := by decide +kernel
theorem zd_XTexture_colourAt_46 : decode zb_XTexture_colourAt 46 = .ok (.lsub, 1) := by decide +kernel
theorem zd_XTexture_colourAt_47 : decode zb_XTexture_colourAt 47 = .ok (.invokevirtual 41, 3) := by decide +kernel
theorem zd_XTexture_colourAt_50 : decode zb_XTexture_colourAt 50 = .ok (.goto 28, 3) := by decide +kernel
theorem zd_XTexture_colourAt_53 : decode zb_XTexture_colourAt 53 = .ok (.aload_n 0, 1) := by decide +kernel
theorem zd_XTexture_colourAt_54 : decode zb_XTexture_colourAt 54 = .ok (.iload 7, 2) := by decide +kernel
theorem zd_XTexture_colourAt_56 : decode zb_XTexture_colourAt 56 = .ok (.iload 6, 2) := by decide +kernel
theorem zd_XTexture_colourAt_58 : decode zb_XTexture_colourAt 58 = .ok (.lload_n 2, 1) := by decide +kernel
theorem zd_XTexture_colourAt_59 : decode zb_XTexture_colourAt 59 = .ok (.iload 6, 2) := by decide +kernel
theorem zd_XTexture_colourAt_61 : decode zb_XTexture_colourAt 61 = .ok (.i2l, 1) := by decide +kernel
theorem zd_XTexture_colourAt_62 : decode zb_XTexture_colourAt 62 = .ok (.lmul, 1) := by decide +kernel
theorem zd_XTexture_colourAt_63 : decode zb_XTexture_colourAt 63 = .ok (.bipush 16, 2) := by decide +kernel
theorem zd_XTexture_colourAt_65 : decode zb_XTexture_colourAt 65 = .ok (.lshr, 1) := by decide +kernel
theorem zd_XTexture_colourAt_66 : decode zb_XTexture_colourAt 66 = .ok (.lload 4, 2) := by decide +kernel
theorem zd_XTexture_colourAt_68 : decode zb_XTexture_colourAt 68 = .ok (.iload 6, 2) := by decide +kernel
theorem zd_XTexture_colourAt_70 : decode zb_XTexture_colourAt 70 = .ok (.i2l, 1) := by decide +kernel
theorem zd_XTexture_colourAt_71 : decode zb_XTexture_colourAt 71 = .ok (.lmul, 1) := by decide +kernel
theorem zd_XTexture_colourAt_72 : decode zb_XTexture_colourAt 72 = .ok (.bipush 16, 2) := by decide +kernel
theorem zd_XTexture_colourAt_74 : decode zb_XTexture_colourAt 74 = .ok (.lshr, 1) := by decide +kernel
theorem zd_XTexture_colourAt_75 : decode zb_XTexture_colourAt 75 = .ok (.invokevirtual 45, 3) := by decide +kernel
theorem zd_XTexture_colourAt_78 : decode zb_XTexture_colourAt 78 = .ok (.ireturn, 1) := by decide +kernel
theorem zw_153 : (Jvm.Cond.fieldLink "OrreryBox$Texture" (35 : Nat) "OrreryBox$Texture" "soft" "Z") ∈ gw := gw_t 153 (by decide +kernel) rfl
theorem zw_843 : (Jvm.Cond.constantLong "OrreryBox$Texture" (39 : Nat) (32768 : Int64)) ∈ gw := gw_t 843 (by decide +kernel) rfl
theorem zw_844 : (Jvm.Cond.methodLink "OrreryBox$Texture" (41 : Nat) ({ cls := "OrreryBox$Texture", name := "softAt", desc := "(IIJJ)I" } : Jvm.MethodName)) ∈ gw := gw_t 844 (by decide +kernel) rfl
theorem zw_846 : (Jvm.Cond.instanceMethod ({ cls := "OrreryBox$Texture", name := "softAt", desc := "(IIJJ)I" } : Jvm.MethodName)) ∈ gw := gw_t 846 (by decide +kernel) rfl
theorem zv_21 : (Jvm.Cond.selects "OrreryBox$Texture" (⟨"OrreryBox$Texture", "softAt", "(IIJJ)I"⟩ : MethodName) ⟨"OrreryBox$Texture", "softAt", "(IIJJ)I"⟩) ∈ gw := gw_s 21 (by decide +kernel) rfl
theorem zs_XTexture_41 : zwV "OrreryBox$Texture" 41 "OrreryBox$Texture" zy_XTexture_softAt zb_XTexture_softAt 21 (some .int) := ⟨zw_844, zw_846, zv_21, zw_6, zc_XTexture_softAt⟩
def F_XTexture_colourAt (sh : zSh) (mm : zMem) (o : Nat) (x0_ : Int32) (x1_ : Int64) (x2_ : Int64) : Option (Int32 × zMem) := zoS (sh o) 10 (fun le2 => zoL ((mm.1 o 0) >>> (x0_ &&& 31)) (fun x3 => zoS (sh o) 10 (fun le5 => Option.bind (mm.2.2 o 5) (fun a6 => zoS (sh a6) 100 (fun le8 => if (x0_ : Int32) < 0 ∨ le8 ≤ (x0_ : Int32).toNatClampNeg then none else zoL (mm.1 a6 (x0_ : Int32).toNatClampNeg) (fun x10 => zoS (sh o) 10 (fun le12 => (if (mm.1 o 2) = 0 then zoS (sh o) 10 (fun le15 => zoL ((x1_ * ((x3 : Int32).toInt64)) >>> ((16 : Int32).toInt64 &&& 63)) (fun x16 => zoL ((x2_ * ((x3 : Int32).toInt64)) >>> ((16 : Int32).toInt64 &&& 63)) (fun x17 => Option.bind (F_XTexture_texel sh mm o x10 x3 x16 x17) (fun p18 => some (p18.1, p18.2))))) else zoS (sh o) 10 (fun le20 => zoL ((x1_ * ((x3 : Int32).toInt64)) - 32768) (fun x21 => zoL ((x2_ * ((x3 : Int32).toInt64)) - 32768) (fun x22 => Option.bind (F_XTexture_softAt sh mm o x10 x3 x21 x22) (fun p23 => some (p23.1, p23.2)))))))))))))
set_option maxHeartbeats 4000000 in
set_option maxRecDepth 100000 in
theorem k_XTexture_colourAt (l : Launch) (D : va_G) (tA : Nat → ClassId) (b : Nat) (sh : zSh) (n : Nat) {mm : zMem} {o : Nat} {x0_ : Int32} {x1_ : Int64} {x2_ : Int64} {r : (Int32 × zMem)} (h : F_XTexture_colourAt sh mm o x0_ x1_ x2_ = some r) : zM l D tA b zy_XTexture_colourAt zb_XTexture_colourAt 8 (some .int) 3 89 0 0 [.ref (b + o), .int x0_, .long x1_, .long x2_] (zW tA b sh mm) n (zE (some (.int (r.1))) (zW tA b sh r.2) n) := by
  unfold F_XTexture_colourAt at h
  refine zM_of (own := "OrreryBox$Texture") (plainFor_of_name (by decide)) rfl (Nat.le_of_ble_eq_true rfl) (fun p e s m below meth c F hr hin hH => ?_)
  refine zr_aload_n F zd_XTexture_colourAt_0 rfl ?_
  obtain ⟨le2, hs1, h⟩ := zoS_s h
  refine zr_get F 10 0 zd_XTexture_colourAt_1 (zW_o hs1 (by decide)) rfl (by decide) zw_148 rfl (by rfl) ?_
  refine zr_iload_n F zd_XTexture_colourAt_4 rfl ?_
  refine zr_ishr F zd_XTexture_colourAt_5 ?_
  obtain ⟨x3, ex3, h⟩ := zoL_s h
  rw [← ex3]
  refine zr_istore F zd_XTexture_colourAt_6 (by decide) ?_
  refine zr_aload_n F zd_XTexture_colourAt_8 rfl ?_
  obtain ⟨le5, hs4, h⟩ := zoS_s h
  obtain ⟨a6, ea6, h⟩ := zoB_s h
  refine zr_get F 10 5 zd_XTexture_colourAt_9 (zW_o hs4 (by decide)) rfl (by decide) zw_156 rfl (by rfl) ?_
  refine zr_tor ea6 ?_
  refine zr_pcn 12 rfl ?_
  refine zr_iload_n F zd_XTexture_colourAt_12 rfl ?_
  obtain ⟨le8, hs7, h⟩ := zoS_s h
  obtain ⟨hi9, h⟩ := zoI_s h
  refine zr_iald F zd_XTexture_colourAt_13 (zW_a0 hs7) hi9 ?_
  obtain ⟨x10, ex10, h⟩ := zoL_s h
  rw [← ex10]
  refine zr_istore F zd_XTexture_colourAt_14 (by decide) ?_
  refine zr_aload_n F zd_XTexture_colourAt_16 rfl ?_
  obtain ⟨le12, hs11, h⟩ := zoS_s h
  refine zr_get F 10 2 zd_XTexture_colourAt_17 (zW_o hs11 (by decide)) rfl (by decide) zw_153 rfl (by rfl) ?_
  refine zr_if_eq F 53 zd_XTexture_colourAt_20 (by decide) (fun hb13 => ?_) (fun hb13 => ?_)
  ·
    rw [if_pos hb13] at h
    refine zr_aload_n F zd_XTexture_colourAt_53 rfl ?_
    refine zr_iload F zd_XTexture_colourAt_54 rfl ?_
    refine zr_pcn 56 rfl ?_
    refine zr_iload F zd_XTexture_colourAt_56 rfl ?_
    refine zr_lload_n F zd_XTexture_colourAt_58 rfl ?_
    refine zr_iload F zd_XTexture_colourAt_59 rfl ?_
    refine zr_i2l F zd_XTexture_colourAt_61 ?_
    refine zr_lmul F zd_XTexture_colourAt_62 ?_
    refine zr_bipushv (v := 16) F zd_XTexture_colourAt_63 (by decide) ?_
    refine zr_lshr F zd_XTexture_colourAt_65 ?_
    refine zr_lload F zd_XTexture_colourAt_66 rfl ?_
    refine zr_pcn 68 rfl ?_
    refine zr_iload F zd_XTexture_colourAt_68 rfl ?_
    refine zr_i2l F zd_XTexture_colourAt_70 ?_
    refine zr_lmul F zd_XTexture_colourAt_71 ?_
    refine zr_bipushv (v := 16) F zd_XTexture_colourAt_72 (by decide) ?_
    refine zr_lshr F zd_XTexture_colourAt_74 ?_
    obtain ⟨le15, hs14, h⟩ := zoS_s h
    obtain ⟨x16, ex16, h⟩ := zoL_s h
    rw [← ex16]
    obtain ⟨x17, ex17, h⟩ := zoL_s h
    rw [← ex17]
    obtain ⟨p18, ep18, h⟩ := zoB_s h
    refine zr_callV1 F (k_XTexture_texel l D tA b sh _ ep18) zd_XTexture_colourAt_75 (zW_o hs14 (by decide)) rfl zs_XTexture_45 rfl zq_XTexture_texel rfl rfl ⟨(Nat.le_of_ble_eq_true rfl), (Nat.le_of_ble_eq_true rfl)⟩ (Nat.le_of_ble_eq_true rfl) ⟨(Nat.le_of_ble_eq_true rfl), (Nat.le_of_ble_eq_true rfl)⟩ ?_
    obtain rfl := Option.some.inj h
    exact zr_iret F hr zd_XTexture_colourAt_78 (Nat.le_of_ble_eq_true rfl) (Nat.le_of_ble_eq_true rfl) ⟨rfl, rfl, rfl⟩
  ·
    rw [if_neg hb13] at h
    refine zr_aload_n F zd_XTexture_colourAt_23 rfl ?_
    refine zr_pcn 24 rfl ?_
    refine zr_iload F zd_XTexture_colourAt_24 rfl ?_
    refine zr_iload F zd_XTexture_colourAt_26 rfl ?_
    refine zr_lload_n F zd_XTexture_colourAt_28 rfl ?_
    refine zr_iload F zd_XTexture_colourAt_29 rfl ?_
    refine zr_i2l F zd_XTexture_colourAt_31 ?_
    refine zr_lmul F zd_XTexture_colourAt_32 ?_
    refine zr_ldc2 F zd_XTexture_colourAt_33 zw_843 ?_
    refine zr_lsub F zd_XTexture_colourAt_36 ?_
    refine zr_pcn 37 rfl ?_
    refine zr_lload F zd_XTexture_colourAt_37 rfl ?_
    refine zr_iload F zd_XTexture_colourAt_39 rfl ?_
    refine zr_i2l F zd_XTexture_colourAt_41 ?_
    refine zr_lmul F zd_XTexture_colourAt_42 ?_
    refine zr_ldc2 F zd_XTexture_colourAt_43 zw_843 ?_
    refine zr_lsub F zd_XTexture_colourAt_46 ?_
    obtain ⟨le20, hs19, h⟩ := zoS_s h
    obtain ⟨x21, ex21, h⟩ := zoL_s h
    rw [← ex21]
    obtain ⟨x22, ex22, h⟩ := zoL_s h
    rw [← ex22]
    obtain ⟨p23, ep23, h⟩ := zoB_s h
    refine zr_callV1 F (k_XTexture_softAt l D tA b sh _ ep23) zd_XTexture_colourAt_47 (zW_o hs19 (by decide)) rfl zs_XTexture_41 rfl zq_XTexture_softAt rfl rfl ⟨(Nat.le_of_ble_eq_true rfl), (Nat.le_of_ble_eq_true rfl)⟩ (Nat.le_of_ble_eq_true rfl) ⟨(Nat.le_of_ble_eq_true rfl), (Nat.le_of_ble_eq_true rfl)⟩ ?_
    refine zr_goto F 78 zd_XTexture_colourAt_50 (by decide) ?_
    refine zr_pcn 78 rfl ?_
    obtain rfl := Option.some.inj h
    exact zr_iret F hr zd_XTexture_colourAt_78 (Nat.le_of_ble_eq_true rfl) (Nat.le_of_ble_eq_true rfl) ⟨rfl, rfl, rfl⟩
abbrev zb_MPainter_goOverPiece : ByteArray := prog_16_method_26_code
def zy_MPainter_goOverPiece : MethodName := ⟨"OrreryBoxModel$Painter", "goOverPiece", "(III)V"⟩
theorem zc_MPainter_goOverPiece : Cond.code zy_MPainter_goOverPiece zb_MPainter_goOverPiece 10 none ∈ gw := gw_t 2112 (by decide +kernel) rfl
theorem zq_MPainter_goOverPiece : zy_MPainter_goOverPiece.cls ≠ "java/lang/invoke/MethodHandle" ∧ zy_MPainter_goOverPiece.cls ≠ "java/lang/invoke/VarHandle" ∧ (parseMethodDescriptor zy_MPainter_goOverPiece.desc).map (fun d => d.parameters.length) = some 3 := by decide +kernel
theorem zd_MPainter_goOverPiece_0 : decode zb_MPainter_goOverPiece 0 = .ok (.aload_n 0, 1) := by decide +kernel
theorem zd_MPainter_goOverPiece_1 : decode zb_MPainter_goOverPiece 1 = .ok (.iconst 0, 1) := by decide +kernel
theorem zd_MPainter_goOverPiece_2 : decode zb_MPainter_goOverPiece 2 = .ok (.iload_n 3, 1) := by decide +kernel
theorem zd_MPainter_goOverPiece_3 : decode zb_MPainter_goOverPiece 3 = .ok (.iload_n 3, 1) := by decide +kernel
theorem zd_MPainter_goOverPiece_4 : decode zb_MPainter_goOverPiece 4 = .ok (.iconst 1, 1) := by decide +kernel
theorem zd_MPainter_goOverPiece_5 : decode zb_MPainter_goOverPiece 5 = .ok (.iadd, 1) := by decide +kernel
theorem zd_MPainter_goOverPiece_6 : decode zb_MPainter_goOverPiece 6 = .ok (.invokevirtual 257, 3) := by decide +kernel
theorem zd_MPainter_goOverPiece_9 : decode zb_MPainter_goOverPiece 9 = .ok (.lstore 4, 2) := by decide +kernel
theorem zd_MPainter_goOverPiece_11 : decode zb_MPainter_goOverPiece 11 = .ok (.lload 4, 2) := by decide +kernel
theorem zd_MPainter_goOverPiece_13 : decode zb_MPainter_goOverPiece 13 = .ok (.lconst 0, 1) := by decide +kernel
theorem zd_MPainter_goOverPiece_14 : decode zb_MPainter_goOverPiece 14 = .ok (.lcmp, 1) := by decide +kernel
theorem zd_MPainter_goOverPiece_15 : decode zb_MPainter_goOverPiece 15 = .ok (.ifCond .eq 36, 3) := by decide +kernel
theorem zd_MPainter_goOverPiece_18 : decode zb_MPainter_goOverPiece 18 = .ok (.lload 4, 2) := by decide +kernel
theorem zd_MPainter_goOverPiece_20 : decode zb_MPainter_goOverPiece 20 = .ok (.lconst 0, 1) := by decide +kernel
theorem zd_MPainter_goOverPiece_21 : decode zb_MPainter_goOverPiece 21 = .ok (.lcmp, 1) := by decide +kernel
theorem zd_MPainter_goOverPiece_22 : decode zb_MPainter_goOverPiece 22 = .ok (.ifCond .ge 19, 3) := by decide +kernel
theorem zd_MPainter_goOverPiece_25 : decode zb_MPainter_goOverPiece 25 = .ok (.aload_n 0, 1) := by decide +kernel
theorem zd_MPainter_goOverPiece_26 : decode zb_MPainter_goOverPiece 26 = .ok (.getfield 129, 3) := by decide +kernel
theorem zd_MPainter_goOverPiece_29 : decode zb_MPainter_goOverPiece 29 = .ok (.getfield 261, 3) := by decide +kernel
theorem zd_MPainter_goOverPiece_32 : decode zb_MPainter_goOverPiece 32 = .ok (.aload_n 0, 1) := by decide +kernel
theorem zd_MPainter_goOverPiece_33 : decode zb_MPainter_goOverPiece 33 = .ok (.iload_n 1, 1) := by decide +kernel
theorem zd_MPainter_goOverPiece_34 : decode zb_MPainter_goOverPiece 34 = .ok (.invokevirtual 180, 3) := by decide +kernel
theorem zd_MPainter_goOverPiece_37 : decode zb_MPainter_goOverPiece 37 = .ok (.iaload, 1) := by decide +kernel
theorem zd_MPainter_goOverPiece_38 : decode zb_MPainter_goOverPiece 38 = .ok (.ifCond .eq 13, 3) := by decide +kernel
theorem zd_MPainter_goOverPiece_41 : decode zb_MPainter_goOverPiece 41 = .ok (.aload_n 0, 1) := by decide +kernel
theorem zd_MPainter_goOverPiece_42 : decode zb_MPainter_goOverPiece 42 = .ok (.getfield 188, 3) := by decide +kernel
theorem zd_MPainter_goOverPiece_45 : decode zb_MPainter_goOverPiece 45 = .ok (.ldc_w 264, 3) := by decide +kernel
theorem zd_MPainter_goOverPiece_48 : decode zb_MPainter_goOverPiece 48 = .ok (.if_icmp .ne 4, 3) := by decide +kernel
theorem zd_MPainter_goOverPiece_51 : decode zb_MPainter_goOverPiece 51 = .ok (.return_, 1) := by decide +kernel
theorem zd_MPainter_goOverPiece_52 : decode zb_MPainter_goOverPiece 52 = .ok (.aload_n 0, 1) := by decide +kernel
theorem zd_MPainter_goOverPiece_53 : decode zb_MPainter_goOverPiece 53 = .ok (.dup, 1) := by decide +kernel
theorem zd_MPainter_goOverPiece_54 : decode zb_MPainter_goOverPiece 54 = .ok (.getfield 188, 3) := by decide +kernel
theorem zd_MPainter_goOverPiece_57 : decode zb_MPainter_goOverPiece 57 = .ok (.iconst 1, 1) := by decide +kernel
theorem zd_MPainter_goOverPiece_58 : decode zb_MPainter_goOverPiece 58 = .ok (.iadd, 1) := by decide +kernel
theorem zd_MPainter_goOverPiece_59 : decode zb_MPainter_goOverPiece 59 = .ok (.putfield 188, 3) := by decide +kernel
theorem zd_MPainter_goOverPiece_62 : decode zb_MPainter_goOverPiece 62 = .ok (.lload 4, 2) := by decide +kernel
theorem zd_MPainter_goOverPiece_64 : decode zb_MPainter_goOverPiece 64 = .ok (.lconst 0, 1) := by decide +kernel
theorem zd_MPainter_goOverPiece_65 : decode zb_MPainter_goOverPiece 65 = .ok (.lcmp, 1) := by decide +kernel
theorem zd_MPainter_goOverPiece_66 : decode zb_MPainter_goOverPiece 66 = .ok (.ifCond .le 7, 3) := by decide +kernel
theorem zd_MPainter_goOverPiece_69 : decode zb_MPainter_goOverPiece 69 = .ok (.iload_n 3, 1) := by decide +kernel
theorem zd_MPainter_goOverPiece_70 : decode zb_MPainter_goOverPiece 70 = .ok (.goto 6, 3) := by decide +kernel
theorem zd_MPainter_goOverPiece_73 : decode zb_MPainter_goOverPiece 73 = .ok (.iload_n 3, 1) := by decide +kernel
theorem zd_MPainter_goOverPiece_74 : decode zb_MPainter_goOverPiece 74 = .ok (.iconst 1, 1) := by decide +kernel
theorem zd_MPainter_goOverPiece_75 : decode zb_MPainter_goOverPiece 75 = .ok (.iadd, 1) := by decide +kernel
theorem zd_MPainter_goOverPiece_76 : decode zb_MPainter_goOverPiece 76 = .ok (.istore 6, 2) := by decide +kernel
theorem zd_MPainter_goOverPiece_78 : decode zb_MPainter_goOverPiece 78 = .ok (.lload 4, 2) := by decide +kernel
theorem zd_MPainter_goOverPiece_80 : decode zb_MPainter_goOverPiece 80 = .ok (.lconst 0, 1) := by decide +kernel
theorem zd_MPainter_goOverPiece_81 : decode zb_MPainter_goOverPiece 81 = .ok (.lcmp, 1) := by decide +kernel
theorem zd_MPainter_goOverPiece_82 : decode zb_MPainter_goOverPiece 82 = .ok (.ifCond .le 9, 3) := by decide +kernel
theorem zd_MPainter_goOverPiece_85 : decode zb_MPainter_goOverPiece 85 = .ok (.iload_n 3, 1) := by decide +kernel
theorem zd_MPainter_goOverPiece_86 : decode zb_MPainter_goOverPiece 86 = .ok (.iconst 1, 1) := by decide +kernel
theorem zd_MPainter_goOverPiece_87 : decode zb_MPainter_goOverPiece 87 = .ok (.iadd, 1) := by decide +kernel
theorem zd_MPainter_goOverPiece_88 : decode zb_MPainter_goOverPiece 88 = .ok (.goto 4, 3) := by decide +kernel
theorem zd_MPainter_goOverPiece_91 : decode zb_MPainter_goOverPiece 91 = .ok (.iload_n 3, 1) := by decide +kernel
theorem zd_MPainter_goOverPiece_92 : decode zb_MPainter_goOverPiece 92 = .ok (.istore 7, 2) := by decide +kernel
theorem zd_MPainter_goOverPiece_94 : decode zb_MPainter_goOverPiece 94 = .ok (.aload_n 0, 1) := by decide +kernel
theorem zd_MPainter_goOverPiece_95 : decode zb_MPainter_goOverPiece 95 = .ok (.getfield 265, 3) := by decide +kernel
theorem zd_MPainter_goOverPiece_98 : decode zb_MPainter_goOverPiece 98 = .ok (.istore 8, 2) := by decide +kernel
theorem zd_MPainter_goOverPiece_100 : decode zb_MPainter_goOverPiece 100 = .ok (.iload 8, 2) := by decide +kernel
theorem zd_MPainter_goOverPiece_102 : decode zb_MPainter_goOverPiece 102 = .ok (.aload_n 0, 1) := by decide +kernel
theorem zd_MPainter_goOverPiece_103 : decode zb_MPainter_goOverPiece 103 = .ok (.getfield 268, 3) := by decide +kernel
theorem zd_MPainter_goOverPiece_106 : decode zb_MPainter_goOverPiece 106 = .ok (.if_icmp .ge 59, 3) := by decide +kernel
theorem zd_MPainter_goOverPiece_109 : decode zb_MPainter_goOverPiece 109 = .ok (.aload_n 0, 1) := by decide +kernel
theorem zd_MPainter_goOverPiece_110 : decode zb_MPainter_goOverPiece 110 = .ok (.getfield 271, 3) := by decide +kernel
theorem zd_MPainter_goOverPiece_113 : decode zb_MPainter_goOverPiece 113 = .ok (.istore 9, 2) := by decide +kernel
theorem zd_MPainter_goOverPiece_115 : decode zb_MPainter_goOverPiece 115 = .ok (.iload 9, 2) := by decide +kernel
theorem zd_MPainter_goOverPiece_117 : decode zb_MPainter_goOverPiece 117 = .ok (.aload_n 0, 1) := by decide +kernel
theorem zd_MPainter_goOverPiece_118 : decode zb_MPainter_goOverPiece 118 = .ok (.getfield 274, 3) := by decide +kernel
theorem zd_MPainter_goOverPiece_121 : decode zb_MPainter_goOverPiece 121 = .ok (.if_icmp .ge 38, 3) := by decide +kernel
theorem zd_MPainter_goOverPiece_124 : decode zb_MPainter_goOverPiece 124 = .ok (.aload_n 0, 1) := by decide +kernel
theorem zd_MPainter_goOverPiece_125 : decode zb_MPainter_goOverPiece 125 = .ok (.iload_n 1, 1) := by decide +kernel
theorem zd_MPainter_goOverPiece_126 : decode zb_MPainter_goOverPiece 126 = .ok (.iload_n 2, 1) := by decide +kernel
theorem zd_MPainter_goOverPiece_127 : decode zb_MPainter_goOverPiece 127 = .ok (.iload 6, 2) := by decide +kernel
theorem zd_MPainter_goOverPiece_129 : decode zb_MPainter_goOverPiece 129 = .ok (.iload 7, 2) := by decide +kernel
theorem zd_MPainter_goOverPiece_131 : decode zb_MPainter_goOverPiece 131 = .ok (.lload 4, 2) := by decide +kernel
theorem zd_MPainter_goOverPiece_133 : decode zb_MPainter_goOverPiece 133 = .ok (.lconst 0, 1) := by decide +kernel
theorem zd_MPainter_goOverPiece_134 : decode zb_MPainter_goOverPiece 134 = .ok (.lcmp, 1) := by decide +kernel
theorem zd_MPainter_goOverPiece_135 : decode zb_MPainter_goOverPiece 135 = .ok (.ifCond .le 8, 3) := by decide +kernel
theorem zd_MPainter_goOverPiece_138 : decode zb_MPainter_goOverPiece 138 = .ok (.lload 4, 2) := by decide +kernel
theorem zd_MPainter_goOverPiece_140 : decode zb_MPainter_goOverPiece 140 = .ok (.goto 6, 3) := by decide +kernel
theorem zd_MPainter_goOverPiece_143 : decode zb_MPainter_goOverPiece 143 = .ok (.lload 4, 2) := by decide +kernel
theorem zd_MPainter_goOverPiece_145 : decode zb_MPainter_goOverPiece 145 = .ok (.lneg, 1) := by decide +kernel
theorem zd_MPainter_goOverPiece_146 : decode zb_MPainter_goOverPiece 146 = .ok (.iload 9, 2) := by decide +kernel
theorem zd_MPainter_goOverPiece_148 : decode zb_MPainter_goOverPiece 148 = .ok (.iload 8, 2) := by decide +kernel
theorem zd_MPainter_goOverPiece_150 : decode zb_MPainter_goOverPiece 150 = .ok (.invokevirtual 277, 3) := by decide +kernel
theorem zd_MPainter_goOverPiece_153 : decode zb_MPainter_goOverPiece 153 = .ok (.iinc 9 1, 3) := by decide +kernel
theorem zd_MPainter_goOverPiece_156 : decode zb_MPainter_goOverPiece 156 = .ok (.goto (-41), 3) := by decide +kernel
theorem zd_MPainter_goOverPiece_159 : decode zb_MPainter_goOverPiece 159 = .ok (.iinc 8 1, 3) := by decide +kernel
theorem zd_MPainter_goOverPiece_162 : decode zb_MPainter_goOverPiece 162 = .ok (.goto (-62), 3) := by decide +kernel
theorem zd_MPainter_goOverPiece_165 : decode zb_MPainter_goOverPiece 165 = .ok (.return_, 1) := by decide +kernel
theorem zw_2113 : (Jvm.Cond.methodLink "OrreryBoxModel$Painter" (257 : Nat) ({ cls := "OrreryBoxModel$Painter", name := "area", desc := "(III)J" } : Jvm.MethodName)) ∈ gw := gw_t 2113 (by decide +kernel) rfl
theorem zw_2115 : (Jvm.Cond.instanceMethod ({ cls := "OrreryBoxModel$Painter", name := "area", desc := "(III)J" } : Jvm.MethodName)) ∈ gw := gw_t 2115 (by decide +kernel) rfl
theorem zv_108 : (Jvm.Cond.selects "OrreryBoxModel$Painter" (⟨"OrreryBoxModel$Painter", "area", "(III)J"⟩ : MethodName) ⟨"OrreryBoxModel$Painter", "area", "(III)J"⟩) ∈ gw := gw_s 108 (by decide +kernel) rfl
theorem zs_MPainter_257 : zwV "OrreryBoxModel$Painter" 257 "OrreryBoxModel$Painter" zy_MPainter_area zb_MPainter_area 4 (some .long) := ⟨zw_2113, zw_2115, zv_108, zw_17, zc_MPainter_area⟩
theorem zw_2117 : (Jvm.Cond.constant "OrreryBoxModel$Painter" (264 : Nat) (36864 : Int32)) ∈ gw := gw_t 2117 (by decide +kernel) rfl
theorem zf_I_13_0 (b : Nat) (m : zMem) (k : Nat) (v : Int32) : (zfl b 13 m k).set 0 (.int v) = zfl b 13 (mI m k 0 v) k := by simp [zfl, mI, upd, vp_updL]
theorem zw_2118 : (Jvm.Cond.methodLink "OrreryBoxModel$Painter" (277 : Nat) ({ cls := "OrreryBoxModel$Painter", name := "goOverPixel", desc := "(IIIIJII)V" } : Jvm.MethodName)) ∈ gw := gw_t 2118 (by decide +kernel) rfl
theorem zw_2120 : (Jvm.Cond.instanceMethod ({ cls := "OrreryBoxModel$Painter", name := "goOverPixel", desc := "(IIIIJII)V" } : Jvm.MethodName)) ∈ gw := gw_t 2120 (by decide +kernel) rfl
theorem zv_109 : (Jvm.Cond.selects "OrreryBoxModel$Painter" (⟨"OrreryBoxModel$Painter", "goOverPixel", "(IIIIJII)V"⟩ : MethodName) ⟨"OrreryBoxModel$Painter", "goOverPixel", "(IIIIJII)V"⟩) ∈ gw := gw_s 109 (by decide +kernel) rfl
theorem zs_MPainter_277 : zwV "OrreryBoxModel$Painter" 277 "OrreryBoxModel$Painter" zy_MPainter_goOverPixel zb_MPainter_goOverPixel 36 none := ⟨zw_2118, zw_2120, zv_109, zw_17, zc_MPainter_goOverPixel⟩
def L_MPainter_goOverPiece_115 (sh : zSh) (fuel : Nat) (v0 : Nat) (v1 : Int32) (v2 : Int32) (v4 : Int64) (v6 : Int32) (v7 : Int32) (v8 : Int32) (v9 : Int32) (mm : zMem) : Option (Nat × Int32 × Int32 × Int64 × Int32 × Int32 × Int32 × Int32 × zMem) := match fuel with
  | 0 => none
  | fu + 1 => zoS (sh v0) 13 (fun le28 => (if (mm.1 v0 8) ≤ v9 then some (v0, v1, v2, v4, v6, v7, v8, v9, mm) else (if (lg_cmp v4 0) ≤ 0 then zoS (sh v0) 13 (fun le32 => Option.bind (F_MPainter_goOverPixel sh mm v0 v1 v2 v6 v7 (-v4) v9 v8) (fun p33 => L_MPainter_goOverPiece_115 sh fu v0 v1 v2 v4 v6 v7 v8 (v9 + 1) p33)) else zoS (sh v0) 13 (fun le35 => Option.bind (F_MPainter_goOverPixel sh mm v0 v1 v2 v6 v7 v4 v9 v8) (fun p36 => L_MPainter_goOverPiece_115 sh fu v0 v1 v2 v4 v6 v7 v8 (v9 + 1) p36)))))
set_option maxHeartbeats 4000000 in
set_option maxRecDepth 100000 in
theorem lp_MPainter_goOverPiece_115 {p : Program} {l : Launch} {e : Env} {s : State} {m : MethodId} {args : Array Value} {below : List Frame} {meth : Method} {c : Code} {D : va_G} {tA : Nat → ClassId} {b n : Nat} {post : Option Value → zV → Nat → Prop} {sh : zSh} (F : zF p s m args meth c zb_MPainter_goOverPiece 10 "OrreryBoxModel$Painter" D tA b) : ∀ (fuel : Nat) (v0 : Nat) (v1 : Int32) (v2 : Int32) (v4 : Int64) (v6 : Int32) (v7 : Int32) (v8 : Int32) (v9 : Int32) (mm : zMem) (r : Nat × Int32 × Int32 × Int64 × Int32 × Int32 × Int32 × Int32 × zMem), L_MPainter_goOverPiece_115 sh fuel v0 v1 v2 v4 v6 v7 v8 v9 mm = some r → (Z p l e { frames := 6, cells := 0, slots := 0, locals := 213 } s m args below meth c D b 10 (MQ below (zQ D b post) args s 0 0 (fun q => b ≤ q)) (zW tA b sh r.2.2.2.2.2.2.2.2) n 0 0 159 [(0, .ref (b + (r.1))), (1, .int (r.2.1)), (2, .int (r.2.2.1)), (4, .long (r.2.2.2.1)), (6, .int (r.2.2.2.2.1)), (7, .int (r.2.2.2.2.2.1)), (8, .int (r.2.2.2.2.2.2.1)), (9, .int (r.2.2.2.2.2.2.2.1))] []) → Z p l e { frames := 6, cells := 0, slots := 0, locals := 213 } s m args below meth c D b 10 (MQ below (zQ D b post) args s 0 0 (fun q => b ≤ q)) (zW tA b sh mm) n 0 0 115 [(0, .ref (b + v0)), (1, .int v1), (2, .int v2), (4, .long v4), (6, .int v6), (7, .int v7), (8, .int v8), (9, .int v9)] [] := by
  intro fuel
  induction fuel with
  | zero =>
    intro v0 v1 v2 v4 v6 v7 v8 v9 mm r h
    cases h
  | succ fu ih =>
    intro v0 v1 v2 v4 v6 v7 v8 v9 mm r h hx0
    rw [L_MPainter_goOverPiece_115] at h
    refine zr_iload F zd_MPainter_goOverPiece_115 rfl ?_
    refine zr_aload_n F zd_MPainter_goOverPiece_117 rfl ?_
    obtain ⟨le28, hs27, h⟩ := zoS_s h
    refine zr_get F 13 8 zd_MPainter_goOverPiece_118 (zW_o hs27 (by decide)) rfl (by decide) zw_1585 rfl (by rfl) ?_
    refine zr_icmp_ge F 159 zd_MPainter_goOverPiece_121 (by decide) (fun hb29 => ?_) (fun hb29 => ?_)
    ·
      rw [if_pos hb29] at h
      obtain rfl := Option.some.inj h
      refine zr_loc (L' := [(0, .ref (b + v0)), (1, .int v1), (2, .int v2), (4, .long v4), (6, .int v6), (7, .int v7), (8, .int v8), (9, .int v9)]) ⟨rfl, rfl, rfl, rfl, rfl, rfl, rfl, rfl, trivial⟩ ?_
      exact hx0 
    ·
      rw [if_neg hb29] at h
      refine zr_pcn 124 rfl ?_
      refine zr_aload_n F zd_MPainter_goOverPiece_124 rfl ?_
      refine zr_iload_n F zd_MPainter_goOverPiece_125 rfl ?_
      refine zr_iload_n F zd_MPainter_goOverPiece_126 rfl ?_
      refine zr_iload F zd_MPainter_goOverPiece_127 rfl ?_
      refine zr_iload F zd_MPainter_goOverPiece_129 rfl ?_
      refine zr_lload F zd_MPainter_goOverPiece_131 rfl ?_
      refine zr_lconstv (v := 0) F zd_MPainter_goOverPiece_133 (by decide) ?_
      refine zr_lcmp F zd_MPainter_goOverPiece_134 ?_
      refine zr_pcn 135 rfl ?_
      refine zr_if_le F 143 zd_MPainter_goOverPiece_135 (by decide) (fun hb30 => ?_) (fun hb30 => ?_)
      ·
        rw [if_pos hb30] at h
        refine zr_lload F zd_MPainter_goOverPiece_143 rfl ?_
        refine zr_lneg F zd_MPainter_goOverPiece_145 ?_
        refine zr_iload F zd_MPainter_goOverPiece_146 rfl ?_
        refine zr_iload F zd_MPainter_goOverPiece_148 rfl ?_
        obtain ⟨le32, hs31, h⟩ := zoS_s h
        obtain ⟨p33, ep33, h⟩ := zoB_s h
        refine zr_callV0 F (k_MPainter_goOverPixel l D tA b sh _ ep33) zd_MPainter_goOverPiece_150 (zW_o hs31 (by decide)) rfl zs_MPainter_277 rfl zq_MPainter_goOverPixel rfl rfl ⟨(Nat.le_of_ble_eq_true rfl), (Nat.le_of_ble_eq_true rfl)⟩ (Nat.le_of_ble_eq_true rfl) ⟨(Nat.le_of_ble_eq_true rfl), (Nat.le_of_ble_eq_true rfl)⟩ ?_
        refine zr_iinc (v := (v9 + 1)) F zd_MPainter_goOverPiece_153 rfl rfl (by decide) ?_
        refine zr_goto F 115 zd_MPainter_goOverPiece_156 (by decide) ?_
        refine zr_loc (L' := [(0, .ref (b + v0)), (1, .int v1), (2, .int v2), (4, .long v4), (6, .int v6), (7, .int v7), (8, .int v8), (9, .int (v9 + 1))]) ⟨rfl, rfl, rfl, rfl, rfl, rfl, rfl, rfl, trivial⟩ ?_
        exact ih _ _ _ _ _ _ _ _ _ _ h hx0
      ·
        rw [if_neg hb30] at h
        refine zr_pcn 138 rfl ?_
        refine zr_lload F zd_MPainter_goOverPiece_138 rfl ?_
        refine zr_goto F 146 zd_MPainter_goOverPiece_140 (by decide) ?_
        refine zr_iload F zd_MPainter_goOverPiece_146 rfl ?_
        refine zr_iload F zd_MPainter_goOverPiece_148 rfl ?_
        obtain ⟨le35, hs34, h⟩ := zoS_s h
        obtain ⟨p36, ep36, h⟩ := zoB_s h
        refine zr_callV0 F (k_MPainter_goOverPixel l D tA b sh _ ep36) zd_MPainter_goOverPiece_150 (zW_o hs34 (by decide)) rfl zs_MPainter_277 rfl zq_MPainter_goOverPixel rfl rfl ⟨(Nat.le_of_ble_eq_true rfl), (Nat.le_of_ble_eq_true rfl)⟩ (Nat.le_of_ble_eq_true rfl) ⟨(Nat.le_of_ble_eq_true rfl), (Nat.le_of_ble_eq_true rfl)⟩ ?_
        refine zr_iinc (v := (v9 + 1)) F zd_MPainter_goOverPiece_153 rfl rfl (by decide) ?_
        refine zr_goto F 115 zd_MPainter_goOverPiece_156 (by decide) ?_
        refine zr_loc (L' := [(0, .ref (b + v0)), (1, .int v1), (2, .int v2), (4, .long v4), (6, .int v6), (7, .int v7), (8, .int v8), (9, .int (v9 + 1))]) ⟨rfl, rfl, rfl, rfl, rfl, rfl, rfl, rfl, trivial⟩ ?_
        exact ih _ _ _ _ _ _ _ _ _ _ h hx0
def L_MPainter_goOverPiece_100 (sh : zSh) (fuel : Nat) (v0 : Nat) (v1 : Int32) (v2 : Int32) (v4 : Int64) (v6 : Int32) (v7 : Int32) (v8 : Int32) (mm : zMem) : Option (Nat × Int32 × Int32 × Int64 × Int32 × Int32 × Int32 × zMem) := match fuel with
  | 0 => none
  | fu + 1 => zoS (sh v0) 13 (fun le22 => (if (mm.1 v0 9) ≤ v8 then some (v0, v1, v2, v4, v6, v7, v8, mm) else zoS (sh v0) 13 (fun le25 => zoL (mm.1 v0 6) (fun x26 => Option.bind (L_MPainter_goOverPiece_115 sh zfuel v0 v1 v2 v4 v6 v7 v8 x26 mm) (fun q37 => L_MPainter_goOverPiece_100 sh fu (q37.1) (q37.2.1) (q37.2.2.1) (q37.2.2.2.1) (q37.2.2.2.2.1) (q37.2.2.2.2.2.1) (q37.2.2.2.2.2.2.1 + 1) (q37.2.2.2.2.2.2.2.2))))))
set_option maxHeartbeats 4000000 in
set_option maxRecDepth 100000 in
theorem lp_MPainter_goOverPiece_100 {p : Program} {l : Launch} {e : Env} {s : State} {m : MethodId} {args : Array Value} {below : List Frame} {meth : Method} {c : Code} {D : va_G} {tA : Nat → ClassId} {b n : Nat} {post : Option Value → zV → Nat → Prop} {sh : zSh} (F : zF p s m args meth c zb_MPainter_goOverPiece 10 "OrreryBoxModel$Painter" D tA b) : ∀ (fuel : Nat) (v0 : Nat) (v1 : Int32) (v2 : Int32) (v4 : Int64) (v6 : Int32) (v7 : Int32) (v8 : Int32) (mm : zMem) (r : Nat × Int32 × Int32 × Int64 × Int32 × Int32 × Int32 × zMem), L_MPainter_goOverPiece_100 sh fuel v0 v1 v2 v4 v6 v7 v8 mm = some r → (Z p l e { frames := 6, cells := 0, slots := 0, locals := 213 } s m args below meth c D b 10 (MQ below (zQ D b post) args s 0 0 (fun q => b ≤ q)) (zW tA b sh r.2.2.2.2.2.2.2) n 0 0 165 [(0, .ref (b + (r.1))), (1, .int (r.2.1)), (2, .int (r.2.2.1)), (4, .long (r.2.2.2.1)), (6, .int (r.2.2.2.2.1)), (7, .int (r.2.2.2.2.2.1)), (8, .int (r.2.2.2.2.2.2.1))] []) → Z p l e { frames := 6, cells := 0, slots := 0, locals := 213 } s m args below meth c D b 10 (MQ below (zQ D b post) args s 0 0 (fun q => b ≤ q)) (zW tA b sh mm) n 0 0 100 [(0, .ref (b + v0)), (1, .int v1), (2, .int v2), (4, .long v4), (6, .int v6), (7, .int v7), (8, .int v8)] [] := by
  intro fuel
  induction fuel with
  | zero =>
    intro v0 v1 v2 v4 v6 v7 v8 mm r h
    cases h
  | succ fu ih =>
    intro v0 v1 v2 v4 v6 v7 v8 mm r h hx0
    rw [L_MPainter_goOverPiece_100] at h
    refine zr_iload F zd_MPainter_goOverPiece_100 rfl ?_
    refine zr_aload_n F zd_MPainter_goOverPiece_102 rfl ?_
    obtain ⟨le22, hs21, h⟩ := zoS_s h
    refine zr_get F 13 9 zd_MPainter_goOverPiece_103 (zW_o hs21 (by decide)) rfl (by decide) zw_1586 rfl (by rfl) ?_
    refine zr_pcn 106 rfl ?_
    refine zr_icmp_ge F 165 zd_MPainter_goOverPiece_106 (by decide) (fun hb23 => ?_) (fun hb23 => ?_)
    ·
      rw [if_pos hb23] at h
      obtain rfl := Option.some.inj h
      refine zr_loc (L' := [(0, .ref (b + v0)), (1, .int v1), (2, .int v2), (4, .long v4), (6, .int v6), (7, .int v7), (8, .int v8)]) ⟨rfl, rfl, rfl, rfl, rfl, rfl, rfl, trivial⟩ ?_
      exact hx0 
    ·
      rw [if_neg hb23] at h
      refine zr_aload_n F zd_MPainter_goOverPiece_109 rfl ?_
      obtain ⟨le25, hs24, h⟩ := zoS_s h
      refine zr_get F 13 6 zd_MPainter_goOverPiece_110 (zW_o hs24 (by decide)) rfl (by decide) zw_1583 rfl (by rfl) ?_
      obtain ⟨x26, ex26, h⟩ := zoL_s h
      rw [← ex26]
      refine zr_istore F zd_MPainter_goOverPiece_113 (by decide) ?_
      obtain ⟨q37, eq37, h⟩ := zoB_s h
      refine zr_loc (L' := [(0, .ref (b + v0)), (1, .int v1), (2, .int v2), (4, .long v4), (6, .int v6), (7, .int v7), (8, .int v8), (9, .int x26)]) ⟨rfl, rfl, rfl, rfl, rfl, rfl, rfl, rfl, trivial⟩ ?_
      refine lp_MPainter_goOverPiece_115 F _ _ _ _ _ _ _ _ _ _ _ eq37 ?_
      ·
        refine zr_iinc (v := (q37.2.2.2.2.2.2.1 + 1)) F zd_MPainter_goOverPiece_159 rfl rfl (by decide) ?_
        refine zr_pcn 162 rfl ?_
        refine zr_goto F 100 zd_MPainter_goOverPiece_162 (by decide) ?_
        refine zr_loc (L' := [(0, .ref (b + (q37.1))), (1, .int (q37.2.1)), (2, .int (q37.2.2.1)), (4, .long (q37.2.2.2.1)), (6, .int (q37.2.2.2.2.1)), (7, .int (q37.2.2.2.2.2.1)), (8, .int (q37.2.2.2.2.2.2.1 + 1))]) ⟨rfl, rfl, rfl, rfl, rfl, rfl, rfl, trivial⟩ ?_
        exact ih _ _ _ _ _ _ _ _ _ h hx0
theorem zw_1351 : (Jvm.Cond.fieldLink "OrreryBoxModel$Painter" (261 : Nat) "OrreryBoxModel$Scene" "both" "[I") ∈ gw := gw_t 1351 (by decide +kernel) rfl
def F_MPainter_goOverPiece (sh : zSh) (mm : zMem) (o : Nat) (x0_ : Int32) (x1_ : Int32) (x2_ : Int32) : Option zMem := zoS (sh o) 13 (fun le2 => Option.bind (F_MPainter_area sh mm o 0 x2_ (x2_ + 1)) (fun p3 => (if (lg_cmp p3.1 0) = 0 then some (p3.2) else (if 0 ≤ (lg_cmp p3.1 0) then zoS (sh o) 13 (fun le7 => (if ((p3.2).1 o 0) = 36864 then some (p3.2) else zoS (sh o) 13 (fun le10 => zoL (((p3.2).1 o 0) + 1) (fun x11 => zoS (sh o) 13 (fun le13 => zoL (mI (p3.2) o 0 x11) (fun mm14 => (if (lg_cmp p3.1 0) ≤ 0 then zoL (x2_ + 1) (fun x16 => (if (lg_cmp p3.1 0) ≤ 0 then zoS (sh o) 13 (fun le19 => zoL (mm14.1 o 7) (fun x20 => Option.bind (L_MPainter_goOverPiece_100 sh zfuel o x0_ x1_ (p3.1) x16 x2_ x20 mm14) (fun q38 => some (q38.2.2.2.2.2.2.2)))) else zoL (x2_ + 1) (fun x39 => zoS (sh o) 13 (fun le41 => zoL (mm14.1 o 7) (fun x42 => Option.bind (L_MPainter_goOverPiece_100 sh zfuel o x0_ x1_ (p3.1) x16 x39 x42 mm14) (fun q43 => some (q43.2.2.2.2.2.2.2))))))) else (if (lg_cmp p3.1 0) ≤ 0 then zoS (sh o) 13 (fun le46 => zoL (mm14.1 o 7) (fun x47 => Option.bind (L_MPainter_goOverPiece_100 sh zfuel o x0_ x1_ (p3.1) x2_ x2_ x47 mm14) (fun q48 => some (q48.2.2.2.2.2.2.2)))) else zoL (x2_ + 1) (fun x49 => zoS (sh o) 13 (fun le51 => zoL (mm14.1 o 7) (fun x52 => Option.bind (L_MPainter_goOverPiece_100 sh zfuel o x0_ x1_ (p3.1) x2_ x49 x52 mm14) (fun q53 => some (q53.2.2.2.2.2.2.2))))))))))))) else zoS (sh o) 13 (fun le55 => Option.bind ((p3.2).2.2 o 5) (fun a56 => zoS (sh a56) 15 (fun le58 => Option.bind ((p3.2).2.2 a56 11) (fun a59 => zoS (sh o) 13 (fun le61 => Option.bind (F_MPainter_materialOf sh (p3.2) o x0_) (fun p62 => zoS (sh a59) 100 (fun le64 => if (p62.1 : Int32) < 0 ∨ le64 ≤ (p62.1 : Int32).toNatClampNeg then none else (if ((p62.2).1 a59 (p62.1 : Int32).toNatClampNeg) = 0 then some (p62.2) else zoS (sh o) 13 (fun le68 => (if ((p62.2).1 o 0) = 36864 then some (p62.2) else zoS (sh o) 13 (fun le71 => zoL (((p62.2).1 o 0) + 1) (fun x72 => zoS (sh o) 13 (fun le74 => zoL (mI (p62.2) o 0 x72) (fun mm75 => (if (lg_cmp p3.1 0) ≤ 0 then zoL (x2_ + 1) (fun x77 => (if (lg_cmp p3.1 0) ≤ 0 then zoS (sh o) 13 (fun le80 => zoL (mm75.1 o 7) (fun x81 => Option.bind (L_MPainter_goOverPiece_100 sh zfuel o x0_ x1_ (p3.1) x77 x2_ x81 mm75) (fun q82 => some (q82.2.2.2.2.2.2.2)))) else zoL (x2_ + 1) (fun x83 => zoS (sh o) 13 (fun le85 => zoL (mm75.1 o 7) (fun x86 => Option.bind (L_MPainter_goOverPiece_100 sh zfuel o x0_ x1_ (p3.1) x77 x83 x86 mm75) (fun q87 => some (q87.2.2.2.2.2.2.2))))))) else (if (lg_cmp p3.1 0) ≤ 0 then zoS (sh o) 13 (fun le90 => zoL (mm75.1 o 7) (fun x91 => Option.bind (L_MPainter_goOverPiece_100 sh zfuel o x0_ x1_ (p3.1) x2_ x2_ x91 mm75) (fun q92 => some (q92.2.2.2.2.2.2.2)))) else zoL (x2_ + 1) (fun x93 => zoS (sh o) 13 (fun le95 => zoL (mm75.1 o 7) (fun x96 => Option.bind (L_MPainter_goOverPiece_100 sh zfuel o x0_ x1_ (p3.1) x2_ x93 x96 mm75) (fun q97 => some (q97.2.2.2.2.2.2.2)))))))))))))))))))))))))
set_option maxHeartbeats 4000000 in
set_option maxRecDepth 100000 in
theorem k_MPainter_goOverPiece (l : Launch) (D : va_G) (tA : Nat → ClassId) (b : Nat) (sh : zSh) (n : Nat) {mm : zMem} {o : Nat} {x0_ : Int32} {x1_ : Int32} {x2_ : Int32} {r : zMem} (h : F_MPainter_goOverPiece sh mm o x0_ x1_ x2_ = some r) : zM l D tA b zy_MPainter_goOverPiece zb_MPainter_goOverPiece 10 none 6 213 0 0 [.ref (b + o), .int x0_, .int x1_, .int x2_] (zW tA b sh mm) n (zE none (zW tA b sh r) n) := by
  unfold F_MPainter_goOverPiece at h
  refine zM_of (own := "OrreryBoxModel$Painter") (plainFor_of_name (by decide)) rfl (Nat.le_of_ble_eq_true rfl) (fun p e s m below meth c F hr hin hH => ?_)
  refine zr_aload_n F zd_MPainter_goOverPiece_0 rfl ?_
  refine zr_iconstv (v := 0) F zd_MPainter_goOverPiece_1 (by decide) ?_
  refine zr_iload_n F zd_MPainter_goOverPiece_2 rfl ?_
  refine zr_iload_n F zd_MPainter_goOverPiece_3 rfl ?_
  refine zr_iconstv (v := 1) F zd_MPainter_goOverPiece_4 (by decide) ?_
  refine zr_iadd F zd_MPainter_goOverPiece_5 ?_
  obtain ⟨le2, hs1, h⟩ := zoS_s h
  obtain ⟨p3, ep3, h⟩ := zoB_s h
  refine zr_callV1 F (k_MPainter_area l D tA b sh _ ep3) zd_MPainter_goOverPiece_6 (zW_o hs1 (by decide)) rfl zs_MPainter_257 rfl zq_MPainter_area rfl rfl ⟨(Nat.le_of_ble_eq_true rfl), (Nat.le_of_ble_eq_true rfl)⟩ (Nat.le_of_ble_eq_true rfl) ⟨(Nat.le_of_ble_eq_true rfl), (Nat.le_of_ble_eq_true rfl)⟩ ?_
  refine zr_pcn 9 rfl ?_
  refine zr_lstore F zd_MPainter_goOverPiece_9 (by decide) ?_
  refine zr_lload F zd_MPainter_goOverPiece_11 rfl ?_
  refine zr_lconstv (v := 0) F zd_MPainter_goOverPiece_13 (by decide) ?_
  refine zr_lcmp F zd_MPainter_goOverPiece_14 ?_
  refine zr_if_eq F 51 zd_MPainter_goOverPiece_15 (by decide) (fun hb4 => ?_) (fun hb4 => ?_)
  ·
    rw [if_pos hb4] at h
    obtain rfl := Option.some.inj h
    exact zr_vret F hr zd_MPainter_goOverPiece_51 (Nat.le_of_ble_eq_true rfl) (Nat.le_of_ble_eq_true rfl) ⟨rfl, rfl, rfl⟩
  ·
    rw [if_neg hb4] at h
    refine zr_lload F zd_MPainter_goOverPiece_18 rfl ?_
    refine zr_lconstv (v := 0) F zd_MPainter_goOverPiece_20 (by decide) ?_
    refine zr_pcn 21 rfl ?_
    refine zr_lcmp F zd_MPainter_goOverPiece_21 ?_
    refine zr_if_ge F 41 zd_MPainter_goOverPiece_22 (by decide) (fun hb5 => ?_) (fun hb5 => ?_)
    ·
      rw [if_pos hb5] at h
      refine zr_aload_n F zd_MPainter_goOverPiece_41 rfl ?_
      obtain ⟨le7, hs6, h⟩ := zoS_s h
      refine zr_get F 13 0 zd_MPainter_goOverPiece_42 (zW_o hs6 (by decide)) rfl (by decide) zw_1576 rfl (by rfl) ?_
      refine zr_ldcw F zd_MPainter_goOverPiece_45 zw_2117 ?_
      refine zr_icmp_ne F 52 zd_MPainter_goOverPiece_48 (by decide) (fun hb8 => ?_) (fun hb8 => ?_)
      ·
        rw [if_neg hb8] at h
        refine zr_aload_n F zd_MPainter_goOverPiece_52 rfl ?_
        refine zr_dup F zd_MPainter_goOverPiece_53 rfl ?_
        refine zr_pcn 54 rfl ?_
        obtain ⟨le10, hs9, h⟩ := zoS_s h
        refine zr_get F 13 0 zd_MPainter_goOverPiece_54 (zW_o hs9 (by decide)) rfl (by decide) zw_1576 rfl (by rfl) ?_
        refine zr_iconstv (v := 1) F zd_MPainter_goOverPiece_57 (by decide) ?_
        refine zr_iadd F zd_MPainter_goOverPiece_58 ?_
        obtain ⟨x11, ex11, h⟩ := zoL_s h
        rw [← ex11]
        obtain ⟨le13, hs12, h⟩ := zoS_s h
        refine zr_put F 13 0 zd_MPainter_goOverPiece_59 (zW_o hs12 (by decide)) rfl (by decide) zw_1576 rfl rfl rfl rfl (by exact (Nat.le_of_ble_eq_true rfl)) ?_
        obtain ⟨mm14, emm14, h⟩ := zoL_s h
        refine zr_norm (zW tA b sh mm14) _ (by rw [emm14]; exact zW_pI (v := x11) hs12 (by decide) (zf_I_13_0 b _ _ _)) rfl ?_
        refine zr_lload F zd_MPainter_goOverPiece_62 rfl ?_
        refine zr_lconstv (v := 0) F zd_MPainter_goOverPiece_64 (by decide) ?_
        refine zr_lcmp F zd_MPainter_goOverPiece_65 ?_
        refine zr_if_le F 73 zd_MPainter_goOverPiece_66 (by decide) (fun hb15 => ?_) (fun hb15 => ?_)
        ·
          rw [if_pos hb15] at h
          refine zr_pcn 73 rfl ?_
          refine zr_iload_n F zd_MPainter_goOverPiece_73 rfl ?_
          refine zr_iconstv (v := 1) F zd_MPainter_goOverPiece_74 (by decide) ?_
          refine zr_iadd F zd_MPainter_goOverPiece_75 ?_
          obtain ⟨x16, ex16, h⟩ := zoL_s h
          rw [← ex16]
          refine zr_istore F zd_MPainter_goOverPiece_76 (by decide) ?_
          refine zr_lload F zd_MPainter_goOverPiece_78 rfl ?_
          refine zr_lconstv (v := 0) F zd_MPainter_goOverPiece_80 (by decide) ?_
          refine zr_lcmp F zd_MPainter_goOverPiece_81 ?_
          refine zr_if_le F 91 zd_MPainter_goOverPiece_82 (by decide) (fun hb17 => ?_) (fun hb17 => ?_)
          ·
            rw [if_pos hb17] at h
            refine zr_pcn 91 rfl ?_
            refine zr_iload_n F zd_MPainter_goOverPiece_91 rfl ?_
            refine zr_istore F zd_MPainter_goOverPiece_92 (by decide) ?_
            refine zr_aload_n F zd_MPainter_goOverPiece_94 rfl ?_
            obtain ⟨le19, hs18, h⟩ := zoS_s h
            refine zr_get F 13 7 zd_MPainter_goOverPiece_95 (zW_o hs18 (by decide)) rfl (by decide) zw_1584 rfl (by rfl) ?_
            obtain ⟨x20, ex20, h⟩ := zoL_s h
            rw [← ex20]
            refine zr_istore F zd_MPainter_goOverPiece_98 (by decide) ?_
            obtain ⟨q38, eq38, h⟩ := zoB_s h
            refine zr_loc (L' := [(0, .ref (b + o)), (1, .int x0_), (2, .int x1_), (4, .long (p3.1)), (6, .int x16), (7, .int x2_), (8, .int x20)]) ⟨rfl, rfl, rfl, rfl, rfl, rfl, rfl, trivial⟩ ?_
            refine lp_MPainter_goOverPiece_100 F _ _ _ _ _ _ _ _ _ _ eq38 ?_
            ·
              obtain rfl := Option.some.inj h
              exact zr_vret F hr zd_MPainter_goOverPiece_165 (Nat.le_of_ble_eq_true rfl) (Nat.le_of_ble_eq_true rfl) ⟨rfl, rfl, rfl⟩
          ·
            rw [if_neg hb17] at h
            refine zr_iload_n F zd_MPainter_goOverPiece_85 rfl ?_
            refine zr_iconstv (v := 1) F zd_MPainter_goOverPiece_86 (by decide) ?_
            refine zr_iadd F zd_MPainter_goOverPiece_87 ?_
            refine zr_goto F 92 zd_MPainter_goOverPiece_88 (by decide) ?_
            obtain ⟨x39, ex39, h⟩ := zoL_s h
            rw [← ex39]
            refine zr_istore F zd_MPainter_goOverPiece_92 (by decide) ?_
            refine zr_aload_n F zd_MPainter_goOverPiece_94 rfl ?_
            refine zr_pcn 95 rfl ?_
            obtain ⟨le41, hs40, h⟩ := zoS_s h
            refine zr_get F 13 7 zd_MPainter_goOverPiece_95 (zW_o hs40 (by decide)) rfl (by decide) zw_1584 rfl (by rfl) ?_
            obtain ⟨x42, ex42, h⟩ := zoL_s h
            rw [← ex42]
            refine zr_istore F zd_MPainter_goOverPiece_98 (by decide) ?_
            obtain ⟨q43, eq43, h⟩ := zoB_s h
            refine zr_loc (L' := [(0, .ref (b + o)), (1, .int x0_), (2, .int x1_), (4, .long (p3.1)), (6, .int x16), (7, .int x39), (8, .int x42)]) ⟨rfl, rfl, rfl, rfl, rfl, rfl, rfl, trivial⟩ ?_
            refine lp_MPainter_goOverPiece_100 F _ _ _ _ _ _ _ _ _ _ eq43 ?_
            ·
              obtain rfl := Option.some.inj h
              exact zr_vret F hr zd_MPainter_goOverPiece_165 (Nat.le_of_ble_eq_true rfl) (Nat.le_of_ble_eq_true rfl) ⟨rfl, rfl, rfl⟩
        ·
          rw [if_neg hb15] at h
          refine zr_iload_n F zd_MPainter_goOverPiece_69 rfl ?_
          refine zr_goto F 76 zd_MPainter_goOverPiece_70 (by decide) ?_
          refine zr_istore F zd_MPainter_goOverPiece_76 (by decide) ?_
          refine zr_lload F zd_MPainter_goOverPiece_78 rfl ?_
          refine zr_lconstv (v := 0) F zd_MPainter_goOverPiece_80 (by decide) ?_
          refine zr_pcn 81 rfl ?_
          refine zr_lcmp F zd_MPainter_goOverPiece_81 ?_
          refine zr_if_le F 91 zd_MPainter_goOverPiece_82 (by decide) (fun hb44 => ?_) (fun hb44 => ?_)
          ·
            rw [if_pos hb44] at h
            refine zr_iload_n F zd_MPainter_goOverPiece_91 rfl ?_
            refine zr_istore F zd_MPainter_goOverPiece_92 (by decide) ?_
            refine zr_aload_n F zd_MPainter_goOverPiece_94 rfl ?_
            obtain ⟨le46, hs45, h⟩ := zoS_s h
            refine zr_get F 13 7 zd_MPainter_goOverPiece_95 (zW_o hs45 (by decide)) rfl (by decide) zw_1584 rfl (by rfl) ?_
            obtain ⟨x47, ex47, h⟩ := zoL_s h
            rw [← ex47]
            refine zr_istore F zd_MPainter_goOverPiece_98 (by decide) ?_
            obtain ⟨q48, eq48, h⟩ := zoB_s h
            refine zr_loc (L' := [(0, .ref (b + o)), (1, .int x0_), (2, .int x1_), (4, .long (p3.1)), (6, .int x2_), (7, .int x2_), (8, .int x47)]) ⟨rfl, rfl, rfl, rfl, rfl, rfl, rfl, trivial⟩ ?_
            refine lp_MPainter_goOverPiece_100 F _ _ _ _ _ _ _ _ _ _ eq48 ?_
            ·
              obtain rfl := Option.some.inj h
              exact zr_vret F hr zd_MPainter_goOverPiece_165 (Nat.le_of_ble_eq_true rfl) (Nat.le_of_ble_eq_true rfl) ⟨rfl, rfl, rfl⟩
          ·
            rw [if_neg hb44] at h
            refine zr_pcn 85 rfl ?_
            refine zr_iload_n F zd_MPainter_goOverPiece_85 rfl ?_
            refine zr_iconstv (v := 1) F zd_MPainter_goOverPiece_86 (by decide) ?_
            refine zr_iadd F zd_MPainter_goOverPiece_87 ?_
            refine zr_goto F 92 zd_MPainter_goOverPiece_88 (by decide) ?_
            obtain ⟨x49, ex49, h⟩ := zoL_s h
            rw [← ex49]
            refine zr_istore F zd_MPainter_goOverPiece_92 (by decide) ?_
            refine zr_aload_n F zd_MPainter_goOverPiece_94 rfl ?_
            obtain ⟨le51, hs50, h⟩ := zoS_s h
            refine zr_get F 13 7 zd_MPainter_goOverPiece_95 (zW_o hs50 (by decide)) rfl (by decide) zw_1584 rfl (by rfl) ?_
            obtain ⟨x52, ex52, h⟩ := zoL_s h
            rw [← ex52]
            refine zr_istore F zd_MPainter_goOverPiece_98 (by decide) ?_
            obtain ⟨q53, eq53, h⟩ := zoB_s h
            refine zr_loc (L' := [(0, .ref (b + o)), (1, .int x0_), (2, .int x1_), (4, .long (p3.1)), (6, .int x2_), (7, .int x49), (8, .int x52)]) ⟨rfl, rfl, rfl, rfl, rfl, rfl, rfl, trivial⟩ ?_
            refine lp_MPainter_goOverPiece_100 F _ _ _ _ _ _ _ _ _ _ eq53 ?_
            ·
              refine zr_pcn 165 rfl ?_
              obtain rfl := Option.some.inj h
              exact zr_vret F hr zd_MPainter_goOverPiece_165 (Nat.le_of_ble_eq_true rfl) (Nat.le_of_ble_eq_true rfl) ⟨rfl, rfl, rfl⟩
      ·
        rw [if_pos hb8] at h
        obtain rfl := Option.some.inj h
        exact zr_vret F hr zd_MPainter_goOverPiece_51 (Nat.le_of_ble_eq_true rfl) (Nat.le_of_ble_eq_true rfl) ⟨rfl, rfl, rfl⟩
    ·
      rw [if_neg hb5] at h
      refine zr_aload_n F zd_MPainter_goOverPiece_25 rfl ?_
      obtain ⟨le55, hs54, h⟩ := zoS_s h
      obtain ⟨a56, ea56, h⟩ := zoB_s h
      refine zr_get F 13 5 zd_MPainter_goOverPiece_26 (zW_o hs54 (by decide)) rfl (by decide) zw_1581 rfl (by rfl) ?_
      refine zr_tor ea56 ?_
      obtain ⟨le58, hs57, h⟩ := zoS_s h
      obtain ⟨a59, ea59, h⟩ := zoB_s h
      refine zr_get F 15 11 zd_MPainter_goOverPiece_29 (zW_o hs57 (by decide)) rfl (by decide) zw_1351 rfl (by rfl) ?_
      refine zr_tor ea59 ?_
      refine zr_aload_n F zd_MPainter_goOverPiece_32 rfl ?_
      refine zr_iload_n F zd_MPainter_goOverPiece_33 rfl ?_
      obtain ⟨le61, hs60, h⟩ := zoS_s h
      obtain ⟨p62, ep62, h⟩ := zoB_s h
      refine zr_callV1 F (k_MPainter_materialOf l D tA b sh _ ep62) zd_MPainter_goOverPiece_34 (zW_o hs60 (by decide)) rfl zs_MPainter_180 rfl zq_MPainter_materialOf rfl rfl ⟨(Nat.le_of_ble_eq_true rfl), (Nat.le_of_ble_eq_true rfl)⟩ (Nat.le_of_ble_eq_true rfl) ⟨(Nat.le_of_ble_eq_true rfl), (Nat.le_of_ble_eq_true rfl)⟩ ?_
      refine zr_pcn 37 rfl ?_
      obtain ⟨le64, hs63, h⟩ := zoS_s h
      obtain ⟨hi65, h⟩ := zoI_s h
      refine zr_iald F zd_MPainter_goOverPiece_37 (zW_a0 hs63) hi65 ?_
      refine zr_if_eq F 51 zd_MPainter_goOverPiece_38 (by decide) (fun hb66 => ?_) (fun hb66 => ?_)
      ·
        rw [if_pos hb66] at h
        obtain rfl := Option.some.inj h
        exact zr_vret F hr zd_MPainter_goOverPiece_51 (Nat.le_of_ble_eq_true rfl) (Nat.le_of_ble_eq_true rfl) ⟨rfl, rfl, rfl⟩
      ·
        rw [if_neg hb66] at h
        refine zr_aload_n F zd_MPainter_goOverPiece_41 rfl ?_
        obtain ⟨le68, hs67, h⟩ := zoS_s h
        refine zr_get F 13 0 zd_MPainter_goOverPiece_42 (zW_o hs67 (by decide)) rfl (by decide) zw_1576 rfl (by rfl) ?_
        refine zr_ldcw F zd_MPainter_goOverPiece_45 zw_2117 ?_
        refine zr_icmp_ne F 52 zd_MPainter_goOverPiece_48 (by decide) (fun hb69 => ?_) (fun hb69 => ?_)
        ·
          rw [if_neg hb69] at h
          refine zr_aload_n F zd_MPainter_goOverPiece_52 rfl ?_
          refine zr_pcn 53 rfl ?_
          refine zr_dup F zd_MPainter_goOverPiece_53 rfl ?_
          obtain ⟨le71, hs70, h⟩ := zoS_s h
          refine zr_get F 13 0 zd_MPainter_goOverPiece_54 (zW_o hs70 (by decide)) rfl (by decide) zw_1576 rfl (by rfl) ?_
          refine zr_iconstv (v := 1) F zd_MPainter_goOverPiece_57 (by decide) ?_
          refine zr_iadd F zd_MPainter_goOverPiece_58 ?_
          obtain ⟨x72, ex72, h⟩ := zoL_s h
          rw [← ex72]
          obtain ⟨le74, hs73, h⟩ := zoS_s h
          refine zr_put F 13 0 zd_MPainter_goOverPiece_59 (zW_o hs73 (by decide)) rfl (by decide) zw_1576 rfl rfl rfl rfl (by exact (Nat.le_of_ble_eq_true rfl)) ?_
          obtain ⟨mm75, emm75, h⟩ := zoL_s h
          refine zr_norm (zW tA b sh mm75) _ (by rw [emm75]; exact zW_pI (v := x72) hs73 (by decide) (zf_I_13_0 b _ _ _)) rfl ?_
          refine zr_lload F zd_MPainter_goOverPiece_62 rfl ?_
          refine zr_lconstv (v := 0) F zd_MPainter_goOverPiece_64 (by decide) ?_
          refine zr_lcmp F zd_MPainter_goOverPiece_65 ?_
          refine zr_pcn 66 rfl ?_
          refine zr_if_le F 73 zd_MPainter_goOverPiece_66 (by decide) (fun hb76 => ?_) (fun hb76 => ?_)
          ·
            rw [if_pos hb76] at h
            refine zr_iload_n F zd_MPainter_goOverPiece_73 rfl ?_
            refine zr_iconstv (v := 1) F zd_MPainter_goOverPiece_74 (by decide) ?_
            refine zr_iadd F zd_MPainter_goOverPiece_75 ?_
            obtain ⟨x77, ex77, h⟩ := zoL_s h
            rw [← ex77]
            refine zr_istore F zd_MPainter_goOverPiece_76 (by decide) ?_
            refine zr_lload F zd_MPainter_goOverPiece_78 rfl ?_
            refine zr_lconstv (v := 0) F zd_MPainter_goOverPiece_80 (by decide) ?_
            refine zr_lcmp F zd_MPainter_goOverPiece_81 ?_
            refine zr_pcn 82 rfl ?_
            refine zr_if_le F 91 zd_MPainter_goOverPiece_82 (by decide) (fun hb78 => ?_) (fun hb78 => ?_)
            ·
              rw [if_pos hb78] at h
              refine zr_iload_n F zd_MPainter_goOverPiece_91 rfl ?_
              refine zr_istore F zd_MPainter_goOverPiece_92 (by decide) ?_
              refine zr_aload_n F zd_MPainter_goOverPiece_94 rfl ?_
              obtain ⟨le80, hs79, h⟩ := zoS_s h
              refine zr_get F 13 7 zd_MPainter_goOverPiece_95 (zW_o hs79 (by decide)) rfl (by decide) zw_1584 rfl (by rfl) ?_
              obtain ⟨x81, ex81, h⟩ := zoL_s h
              rw [← ex81]
              refine zr_istore F zd_MPainter_goOverPiece_98 (by decide) ?_
              obtain ⟨q82, eq82, h⟩ := zoB_s h
              refine zr_loc (L' := [(0, .ref (b + o)), (1, .int x0_), (2, .int x1_), (4, .long (p3.1)), (6, .int x77), (7, .int x2_), (8, .int x81)]) ⟨rfl, rfl, rfl, rfl, rfl, rfl, rfl, trivial⟩ ?_
              refine lp_MPainter_goOverPiece_100 F _ _ _ _ _ _ _ _ _ _ eq82 ?_
              ·
                obtain rfl := Option.some.inj h
                exact zr_vret F hr zd_MPainter_goOverPiece_165 (Nat.le_of_ble_eq_true rfl) (Nat.le_of_ble_eq_true rfl) ⟨rfl, rfl, rfl⟩
            ·
              rw [if_neg hb78] at h
              refine zr_iload_n F zd_MPainter_goOverPiece_85 rfl ?_
              refine zr_pcn 86 rfl ?_
              refine zr_iconstv (v := 1) F zd_MPainter_goOverPiece_86 (by decide) ?_
              refine zr_iadd F zd_MPainter_goOverPiece_87 ?_
              refine zr_goto F 92 zd_MPainter_goOverPiece_88 (by decide) ?_
              obtain ⟨x83, ex83, h⟩ := zoL_s h
              rw [← ex83]
              refine zr_istore F zd_MPainter_goOverPiece_92 (by decide) ?_
              refine zr_aload_n F zd_MPainter_goOverPiece_94 rfl ?_
              obtain ⟨le85, hs84, h⟩ := zoS_s h
              refine zr_get F 13 7 zd_MPainter_goOverPiece_95 (zW_o hs84 (by decide)) rfl (by decide) zw_1584 rfl (by rfl) ?_
              obtain ⟨x86, ex86, h⟩ := zoL_s h
              rw [← ex86]
              refine zr_istore F zd_MPainter_goOverPiece_98 (by decide) ?_
              obtain ⟨q87, eq87, h⟩ := zoB_s h
              refine zr_loc (L' := [(0, .ref (b + o)), (1, .int x0_), (2, .int x1_), (4, .long (p3.1)), (6, .int x77), (7, .int x83), (8, .int x86)]) ⟨rfl, rfl, rfl, rfl, rfl, rfl, rfl, trivial⟩ ?_
              refine lp_MPainter_goOverPiece_100 F _ _ _ _ _ _ _ _ _ _ eq87 ?_
              ·
                obtain rfl := Option.some.inj h
                exact zr_vret F hr zd_MPainter_goOverPiece_165 (Nat.le_of_ble_eq_true rfl) (Nat.le_of_ble_eq_true rfl) ⟨rfl, rfl, rfl⟩
          ·
            rw [if_neg hb76] at h
            refine zr_pcn 69 rfl ?_
            refine zr_iload_n F zd_MPainter_goOverPiece_69 rfl ?_
            refine zr_goto F 76 zd_MPainter_goOverPiece_70 (by decide) ?_
            refine zr_istore F zd_MPainter_goOverPiece_76 (by decide) ?_
            refine zr_lload F zd_MPainter_goOverPiece_78 rfl ?_
            refine zr_lconstv (v := 0) F zd_MPainter_goOverPiece_80 (by decide) ?_
            refine zr_lcmp F zd_MPainter_goOverPiece_81 ?_
            refine zr_if_le F 91 zd_MPainter_goOverPiece_82 (by decide) (fun hb88 => ?_) (fun hb88 => ?_)
            ·
              rw [if_pos hb88] at h
              refine zr_iload_n F zd_MPainter_goOverPiece_91 rfl ?_
              refine zr_pcn 92 rfl ?_
              refine zr_istore F zd_MPainter_goOverPiece_92 (by decide) ?_
              refine zr_aload_n F zd_MPainter_goOverPiece_94 rfl ?_
              obtain ⟨le90, hs89, h⟩ := zoS_s h
              refine zr_get F 13 7 zd_MPainter_goOverPiece_95 (zW_o hs89 (by decide)) rfl (by decide) zw_1584 rfl (by rfl) ?_
              obtain ⟨x91, ex91, h⟩ := zoL_s h
              rw [← ex91]
              refine zr_istore F zd_MPainter_goOverPiece_98 (by decide) ?_
              obtain ⟨q92, eq92, h⟩ := zoB_s h
              refine zr_loc (L' := [(0, .ref (b + o)), (1, .int x0_), (2, .int x1_), (4, .long (p3.1)), (6, .int x2_), (7, .int x2_), (8, .int x91)]) ⟨rfl, rfl, rfl, rfl, rfl, rfl, rfl, trivial⟩ ?_
              refine lp_MPainter_goOverPiece_100 F _ _ _ _ _ _ _ _ _ _ eq92 ?_
              ·
                obtain rfl := Option.some.inj h
                exact zr_vret F hr zd_MPainter_goOverPiece_165 (Nat.le_of_ble_eq_true rfl) (Nat.le_of_ble_eq_true rfl) ⟨rfl, rfl, rfl⟩
            ·
              rw [if_neg hb88] at h
              refine zr_iload_n F zd_MPainter_goOverPiece_85 rfl ?_
              refine zr_iconstv (v := 1) F zd_MPainter_goOverPiece_86 (by decide) ?_
              refine zr_iadd F zd_MPainter_goOverPiece_87 ?_
              refine zr_pcn 88 rfl ?_
              refine zr_goto F 92 zd_MPainter_goOverPiece_88 (by decide) ?_
              obtain ⟨x93, ex93, h⟩ := zoL_s h
              rw [← ex93]
              refine zr_istore F zd_MPainter_goOverPiece_92 (by decide) ?_
              refine zr_aload_n F zd_MPainter_goOverPiece_94 rfl ?_
              obtain ⟨le95, hs94, h⟩ := zoS_s h
              refine zr_get F 13 7 zd_MPainter_goOverPiece_95 (zW_o hs94 (by decide)) rfl (by decide) zw_1584 rfl (by rfl) ?_
              obtain ⟨x96, ex96, h⟩ := zoL_s h
              rw [← ex96]
              refine zr_istore F zd_MPainter_goOverPiece_98 (by decide) ?_
              obtain ⟨q97, eq97, h⟩ := zoB_s h
              refine zr_loc (L' := [(0, .ref (b + o)), (1, .int x0_), (2, .int x1_), (4, .long (p3.1)), (6, .int x2_), (7, .int x93), (8, .int x96)]) ⟨rfl, rfl, rfl, rfl, rfl, rfl, rfl, trivial⟩ ?_
              refine lp_MPainter_goOverPiece_100 F _ _ _ _ _ _ _ _ _ _ eq97 ?_
              ·
                obtain rfl := Option.some.inj h
                exact zr_vret F hr zd_MPainter_goOverPiece_165 (Nat.le_of_ble_eq_true rfl) (Nat.le_of_ble_eq_true rfl) ⟨rfl, rfl, rfl⟩
        ·
          rw [if_pos hb69] at h
          obtain rfl := Option.some.inj h
          exact zr_vret F hr zd_MPainter_goOverPiece_51 (Nat.le_of_ble_eq_true rfl) (Nat.le_of_ble_eq_true rfl) ⟨rfl, rfl, rfl⟩
abbrev zb_XPacker_write : ByteArray := prog_5_method_2_code
def zy_XPacker_write : MethodName := ⟨"OrreryBox$Packer", "write", "([III)V"⟩
theorem zc_XPacker_write : Cond.code zy_XPacker_write zb_XPacker_write 5 none ∈ gw := gw_t 907 (by decide +kernel) rfl
theorem zq_XPacker_write : zy_XPacker_write.cls ≠ "java/lang/invoke/MethodHandle" ∧ zy_XPacker_write.cls ≠ "java/lang/invoke/VarHandle" ∧ (parseMethodDescriptor zy_XPacker_write.desc).map (fun d => d.parameters.length) = some 3 := by decide +kernel
theorem zd_XPacker_write_0 : decode zb_XPacker_write 0 = .ok (.aload_n 0, 1) := by decide +kernel
theorem zd_XPacker_write_1 : decode zb_XPacker_write 1 = .ok (.aload_n 1, 1) := by decide +kernel
theorem zd_XPacker_write_2 : decode zb_XPacker_write 2 = .ok (.iload_n 2, 1) := by decide +kernel
theorem zd_XPacker_write_3 : decode zb_XPacker_write 3 = .ok (.iload_n 3, 1) := by decide +kernel
theorem zd_XPacker_write_4 : decode zb_XPacker_write 4 = .ok (.imul, 1) := by decide +kernel
theorem zd_XPacker_write_5 : decode zb_XPacker_write 5 = .ok (.invokevirtual 28, 3) := by decide +kernel
theorem zd_XPacker_write_8 : decode zb_XPacker_write 8 = .ok (.aload_n 0, 1) := by decide +kernel
theorem zd_XPacker_write_9 : decode zb_XPacker_write 9 = .ok (.iconst 3, 1) := by decide +kernel
theorem zd_XPacker_write_10 : decode zb_XPacker_write 10 = .ok (.iload_n 2, 1) := by decide +kernel
theorem zd_XPacker_write_11 : decode zb_XPacker_write 11 = .ok (.imul, 1) := by decide +kernel
theorem zd_XPacker_write_12 : decode zb_XPacker_write 12 = .ok (.iload_n 3, 1) := by decide +kernel
theorem zd_XPacker_write_13 : decode zb_XPacker_write 13 = .ok (.invokevirtual 32, 3) := by decide +kernel
theorem zd_XPacker_write_16 : decode zb_XPacker_write 16 = .ok (.aload_n 0, 1) := by decide +kernel
theorem zd_XPacker_write_17 : decode zb_XPacker_write 17 = .ok (.iconst 0, 1) := by decide +kernel
theorem zd_XPacker_write_18 : decode zb_XPacker_write 18 = .ok (.putfield 36, 3) := by decide +kernel
theorem zd_XPacker_write_21 : decode zb_XPacker_write 21 = .ok (.aload_n 0, 1) := by decide +kernel
theorem zd_XPacker_write_22 : decode zb_XPacker_write 22 = .ok (.ldc 40, 2) := by decide +kernel
theorem zd_XPacker_write_24 : decode zb_XPacker_write 24 = .ok (.invokevirtual 41, 3) := by decide +kernel
theorem zd_XPacker_write_27 : decode zb_XPacker_write 27 = .ok (.aload_n 0, 1) := by decide +kernel
theorem zd_XPacker_write_28 : decode zb_XPacker_write 28 = .ok (.ldc 45, 2) := by decide +kernel
theorem zd_XPacker_write_30 : decode zb_XPacker_write 30 = .ok (.invokevirtual 41, 3) := by decide +kernel
theorem zd_XPacker_write_33 : decode zb_XPacker_write 33 = .ok (.aload_n 0, 1) := by decide +kernel
theorem zd_XPacker_write_34 : decode zb_XPacker_write 34 = .ok (.ldc 46, 2) := by decide +kernel
theorem zd_XPacker_write_36 : decode zb_XPacker_write 36 = .ok (.invokevirtual 48, 3) := by decide +kernel
theorem zd_XPacker_write_39 : decode zb_XPacker_write 39 = .ok (.istore 4, 2) := by decide +kernel
theorem zd_XPacker_write_41 : decode zb_XPacker_write 41 = .ok (.aload_n 0, 1) := by decide +kernel
theorem zd_XPacker_write_42 : decode zb_XPacker_write 42 = .ok (.iload_n 2, 1) := by decide +kernel
theorem zd_XPacker_write_43 : decode zb_XPacker_write 43 = .ok (.invokevirtual 41, 3) := by decide +kernel
theorem zd_XPacker_write_46 : decode zb_XPacker_write 46 = .ok (.aload_n 0, 1) := by decide +kernel
theorem zd_XPacker_write_47 : decode zb_XPacker_write 47 = .ok (.iload_n 3, 1) := by decide +kernel
theorem zd_XPacker_write_48 : decode zb_XPacker_write 48 = .ok (.invokevirtual 41, 3) := by decide +kernel
theorem zd_XPacker_write_51 : decode zb_XPacker_write 51 = .ok (.aload_n 0, 1) := by decide +kernel
theorem zd_XPacker_write_52 : decode zb_XPacker_write 52 = .ok (.ldc 52, 2) := by decide +kernel
theorem zd_XPacker_write_54 : decode zb_XPacker_write 54 = .ok (.invokevirtual 41, 3) := by decide +kernel
theorem zd_XPacker_write_57 : decode zb_XPacker_write 57 = .ok (.aload_n 0, 1) := by decide +kernel
theorem zd_XPacker_write_58 : decode zb_XPacker_write 58 = .ok (.iconst 0, 1) := by decide +kernel
theorem zd_XPacker_write_59 : decode zb_XPacker_write 59 = .ok (.invokevirtual 53, 3) := by decide +kernel
theorem zd_XPacker_write_62 : decode zb_XPacker_write 62 = .ok (.aload_n 0, 1) := by decide +kernel
theorem zd_XPacker_write_63 : decode zb_XPacker_write 63 = .ok (.iload 4, 2) := by decide +kernel
theorem zd_XPacker_write_65 : decode zb_XPacker_write 65 = .ok (.invokevirtual 56, 3) := by decide +kernel
theorem zd_XPacker_write_68 : decode zb_XPacker_write 68 = .ok (.aload_n 0, 1) := by decide +kernel
theorem zd_XPacker_write_69 : decode zb_XPacker_write 69 = .ok (.ldc 59, 2) := by decide +kernel
theorem zd_XPacker_write_71 : decode zb_XPacker_write 71 = .ok (.invokevirtual 48, 3) := by decide +kernel
theorem zd_XPacker_write_74 : decode zb_XPacker_write 74 = .ok (.istore 4, 2) := by decide +kernel
theorem zd_XPacker_write_76 : decode zb_XPacker_write 76 = .ok (.aload_n 0, 1) := by decide +kernel
theorem zd_XPacker_write_77 : decode zb_XPacker_write 77 = .ok (.bipush 120, 2) := by decide +kernel
theorem zd_XPacker_write_79 : decode zb_XPacker_write 79 = .ok (.invokevirtual 53, 3) := by decide +kernel
theorem zd_XPacker_write_82 : decode zb_XPacker_write 82 = .ok (.aload_n 0, 1) := by decide +kernel
theorem zd_XPacker_write_83 : decode zb_XPacker_write 83 = .ok (.iconst 1, 1) := by decide +kernel
theorem zd_XPacker_write_84 : decode zb_XPacker_write 84 = .ok (.invokevirtual 53, 3) := by decide +kernel
theorem zd_XPacker_write_87 : decode zb_XPacker_write 87 = .ok (.aload_n 0, 1) := by decide +kernel
theorem zd_XPacker_write_88 : decode zb_XPacker_write 88 = .ok (.invokevirtual 61, 3) := by decide +kernel
theorem zd_XPacker_write_91 : decode zb_XPacker_write 91 = .ok (.aload_n 0, 1) := by decide +kernel
theorem zd_XPacker_write_92 : decode zb_XPacker_write 92 = .ok (.aload_n 0, 1) := by decide +kernel
theorem zd_XPacker_write_93 : decode zb_XPacker_write 93 = .ok (.invokevirtual 64, 3) := by decide +kernel
theorem zd_XPacker_write_96 : decode zb_XPacker_write 96 = .ok (.invokevirtual 41, 3) := by decide +kernel
theorem zd_XPacker_write_99 : decode zb_XPacker_write 99 = .ok (.aload_n 0, 1) := by decide +kernel
theorem zd_XPacker_write_100 : decode zb_XPacker_write 100 = .ok (.iload 4, 2) := by decide +kernel
theorem zd_XPacker_write_102 : decode zb_XPacker_write 102 = .ok (.invokevirtual 56, 3) := by decide +kernel
theorem zd_XPacker_write_105 : decode zb_XPacker_write 105 = .ok (.aload_n 0, 1) := by decide +kernel
theorem zd_XPacker_write_106 : decode zb_XPacker_write 106 = .ok (.aload_n 0, 1) := by decide +kernel
theorem zd_XPacker_write_107 : decode zb_XPacker_write 107 = .ok (.ldc 68, 2) := by decide +kernel
theorem zd_XPacker_write_109 : decode zb_XPacker_write 109 = .ok (.invokevirtual 48, 3) := by decide +kernel
theorem zd_XPacker_write_112 : decode zb_XPacker_write 112 = .ok (.invokevirtual 56, 3) := by decide +kernel
theorem zd_XPacker_write_115 : decode zb_XPacker_write 115 = .ok (.return_, 1) := by decide +kernel
theorem zw_908 : (Jvm.Cond.methodLink "OrreryBox$Packer" (28 : Nat) ({ cls := "OrreryBox$Packer", name := "makeRaw", desc := "([II)V" } : Jvm.MethodName)) ∈ gw := gw_t 908 (by decide +kernel) rfl
theorem zw_910 : (Jvm.Cond.instanceMethod ({ cls := "OrreryBox$Packer", name := "makeRaw", desc := "([II)V" } : Jvm.MethodName)) ∈ gw := gw_t 910 (by decide +kernel) rfl
theorem zv_26 : (Jvm.Cond.selects "OrreryBox$Packer" (⟨"OrreryBox$Packer", "makeRaw", "([II)V"⟩ : MethodName) ⟨"OrreryBox$Packer", "makeRaw", "([II)V"⟩) ∈ gw := gw_s 26 (by decide +kernel) rfl
theorem zs_XPacker_28 : zwV "OrreryBox$Packer" 28 "OrreryBox$Packer" zy_XPacker_makeRaw zb_XPacker_makeRaw 4 none := ⟨zw_908, zw_910, zv_26, zw_3, zc_XPacker_makeRaw⟩
theorem zw_912 : (Jvm.Cond.methodLink "OrreryBox$Packer" (32 : Nat) ({ cls := "OrreryBox$Packer", name := "makeRows", desc := "(II)V" } : Jvm.MethodName)) ∈ gw := gw_t 912 (by decide +kernel) rfl
theorem zw_914 : (Jvm.Cond.instanceMethod ({ cls := "OrreryBox$Packer", name := "makeRows", desc := "(II)V" } : Jvm.MethodName)) ∈ gw := gw_t 914 (by decide +kernel) rfl
theorem zv_27 : (Jvm.Cond.selects "OrreryBox$Packer" (⟨"OrreryBox$Packer", "makeRows", "(II)V"⟩ : MethodName) ⟨"OrreryBox$Packer", "makeRows", "(II)V"⟩) ∈ gw := gw_s 27 (by decide +kernel) rfl
theorem zs_XPacker_32 : zwV "OrreryBox$Packer" 32 "OrreryBox$Packer" zy_XPacker_makeRows zb_XPacker_makeRows 6 none := ⟨zw_912, zw_914, zv_27, zw_3, zc_XPacker_makeRows⟩
theorem zw_935 : (Jvm.Cond.constant "OrreryBox$Packer" (40 : Nat) (-1991225785 : Int32)) ∈ gw := gw_t 935 (by decide +kernel) rfl
theorem zw_944 : (Jvm.Cond.constant "OrreryBox$Packer" (45 : Nat) (218765834 : Int32)) ∈ gw := gw_t 944 (by decide +kernel) rfl
theorem zw_946 : (Jvm.Cond.methodLink "OrreryBox$Packer" (48 : Nat) ({ cls := "OrreryBox$Packer", name := "openChunk", desc := "(Ljava/lang/String;)I" } : Jvm.MethodName)) ∈ gw := gw_t 946 (by decide +kernel) rfl
theorem zw_948 : (Jvm.Cond.instanceMethod ({ cls := "OrreryBox$Packer", name := "openChunk", desc := "(Ljava/lang/String;)I" } : Jvm.MethodName)) ∈ gw := gw_t 948 (by decide +kernel) rfl
theorem zv_32 : (Jvm.Cond.selects "OrreryBox$Packer" (⟨"OrreryBox$Packer", "openChunk", "(Ljava/lang/String;)I"⟩ : MethodName) ⟨"OrreryBox$Packer", "openChunk", "(Ljava/lang/String;)I"⟩) ∈ gw := gw_s 32 (by decide +kernel) rfl
theorem zs_XPacker_48 : zwV "OrreryBox$Packer" 48 "OrreryBox$Packer" zy_XPacker_openChunk zb_XPacker_openChunk 4 (some .int) := ⟨zw_946, zw_948, zv_32, zw_3, zc_XPacker_openChunk⟩
theorem zw_998 : (Jvm.Cond.constant "OrreryBox$Packer" (52 : Nat) (134348800 : Int32)) ∈ gw := gw_t 998 (by decide +kernel) rfl
theorem zw_999 : (Jvm.Cond.methodLink "OrreryBox$Packer" (56 : Nat) ({ cls := "OrreryBox$Packer", name := "closeChunk", desc := "(I)V" } : Jvm.MethodName)) ∈ gw := gw_t 999 (by decide +kernel) rfl
theorem zw_1001 : (Jvm.Cond.instanceMethod ({ cls := "OrreryBox$Packer", name := "closeChunk", desc := "(I)V" } : Jvm.MethodName)) ∈ gw := gw_t 1001 (by decide +kernel) rfl
theorem zv_33 : (Jvm.Cond.selects "OrreryBox$Packer" (⟨"OrreryBox$Packer", "closeChunk", "(I)V"⟩ : MethodName) ⟨"OrreryBox$Packer", "closeChunk", "(I)V"⟩) ∈ gw := gw_s 33 (by decide +kernel) rfl
theorem zs_XPacker_56 : zwV "OrreryBox$Packer" 56 "OrreryBox$Packer" zy_XPacker_closeChunk zb_XPacker_closeChunk 5 none := ⟨zw_999, zw_1001, zv_33, zw_3, zc_XPacker_closeChunk⟩
theorem zw_1008 : (Jvm.Cond.methodLink "OrreryBox$Packer" (61 : Nat) ({ cls := "OrreryBox$Packer", name := "packRows", desc := "()V" } : Jvm.MethodName)) ∈ gw := gw_t 1008 (by decide +kernel) rfl
theorem zw_1010 : (Jvm.Cond.instanceMethod ({ cls := "OrreryBox$Packer", name := "packRows", desc := "()V" } : Jvm.MethodName)) ∈ gw := gw_t 1010 (by decide +kernel) rfl
theorem zv_34 : (Jvm.Cond.selects "OrreryBox$Packer" (⟨"OrreryBox$Packer", "packRows", "()V"⟩ : MethodName) ⟨"OrreryBox$Packer", "packRows", "()V"⟩) ∈ gw := gw_s 34 (by decide +kernel) rfl
theorem zs_XPacker_61 : zwV "OrreryBox$Packer" 61 "OrreryBox$Packer" zy_XPacker_packRows zb_XPacker_packRows 3 none := ⟨zw_1008, zw_1010, zv_34, zw_3, zc_XPacker_packRows⟩
theorem zw_1052 : (Jvm.Cond.methodLink "OrreryBox$Packer" (64 : Nat) ({ cls := "OrreryBox$Packer", name := "sumOfRows", desc := "()I" } : Jvm.MethodName)) ∈ gw := gw_t 1052 (by decide +kernel) rfl
theorem zw_1054 : (Jvm.Cond.instanceMethod ({ cls := "OrreryBox$Packer", name := "sumOfRows", desc := "()I" } : Jvm.MethodName)) ∈ gw := gw_t 1054 (by decide +kernel) rfl
theorem zv_45 : (Jvm.Cond.selects "OrreryBox$Packer" (⟨"OrreryBox$Packer", "sumOfRows", "()I"⟩ : MethodName) ⟨"OrreryBox$Packer", "sumOfRows", "()I"⟩) ∈ gw := gw_s 45 (by decide +kernel) rfl
theorem zs_XPacker_64 : zwV "OrreryBox$Packer" 64 "OrreryBox$Packer" zy_XPacker_sumOfRows zb_XPacker_sumOfRows 4 (some .int) := ⟨zw_1052, zw_1054, zv_45, zw_3, zc_XPacker_sumOfRows⟩
def F_XPacker_write (sh : zSh) (mm : zMem) (o : Nat) (x0_ : Nat) (x1_ : Int32) (x2_ : Int32) : Option zMem := zoS (sh o) 4 (fun le2 => Option.bind (F_XPacker_makeRaw sh mm o x0_ (x1_ * x2_)) (fun p3 => zoS (sh o) 4 (fun le5 => Option.bind (F_XPacker_makeRows sh p3 o (3 * x1_) x2_) (fun p6 => zoS (sh o) 4 (fun le8 => zoL (mI p6 o 1 0) (fun mm9 => zoS (sh o) 4 (fun le11 => Option.bind (F_XPacker_putNumber sh mm9 o (-1991225785)) (fun p12 => zoS (sh o) 4 (fun le14 => Option.bind (F_XPacker_putNumber sh p12 o 218765834) (fun p15 => zoS (sh o) 4 (fun le17 => Option.bind (F_XPacker_openChunk sh p15 o 0) (fun p18 => zoS (sh o) 4 (fun le20 => Option.bind (F_XPacker_putNumber sh (p18.2) o x1_) (fun p21 => zoS (sh o) 4 (fun le23 => Option.bind (F_XPacker_putNumber sh p21 o x2_) (fun p24 => zoS (sh o) 4 (fun le26 => Option.bind (F_XPacker_putNumber sh p24 o 134348800) (fun p27 => zoS (sh o) 4 (fun le29 => Option.bind (F_XPacker_putByte sh p27 o 0) (fun p30 => zoS (sh o) 4 (fun le32 => Option.bind (F_XPacker_closeChunk sh p30 o (p18.1)) (fun p33 => zoS (sh o) 4 (fun le35 => Option.bind (F_XPacker_openChunk sh p33 o 1) (fun p36 => zoS (sh o) 4 (fun le38 => Option.bind (F_XPacker_putByte sh (p36.2) o 120) (fun p39 => zoS (sh o) 4 (fun le41 => Option.bind (F_XPacker_putByte sh p39 o 1) (fun p42 => zoS (sh o) 4 (fun le44 => Option.bind (F_XPacker_packRows sh p42 o) (fun p45 => zoS (sh o) 4 (fun le47 => Option.bind (F_XPacker_sumOfRows sh p45 o) (fun p48 => zoS (sh o) 4 (fun le50 => Option.bind (F_XPacker_putNumber sh (p48.2) o (p48.1)) (fun p51 => zoS (sh o) 4 (fun le53 => Option.bind (F_XPacker_closeChunk sh p51 o (p36.1)) (fun p54 => zoS (sh o) 4 (fun le56 => Option.bind (F_XPacker_openChunk sh p54 o 2) (fun p57 => zoS (sh o) 4 (fun le59 => Option.bind (F_XPacker_closeChunk sh (p57.2) o (p57.1)) (fun p60 => some p60))))))))))))))))))))))))))))))))))))))))
set_option maxHeartbeats 4000000 in
set_option maxRecDepth 100000 in
theorem k_XPacker_write (l : Launch) (D : va_G) (tA : Nat → ClassId) (b : Nat) (sh : zSh) (n : Nat) {mm : zMem} {o : Nat} {x0_ : Nat} {x1_ : Int32} {x2_ : Int32} {r : zMem} (h : F_XPacker_write sh mm o x0_ x1_ x2_ = some r) : zM l D tA b zy_XPacker_write zb_XPacker_write 5 none 6 149 0 0 [.ref (b + o), .ref (b + x0_), .int x1_, .int x2_] (zW tA b sh mm) n (zE none (zW tA b sh r) n) := by
  unfold F_XPacker_write at h
  refine zM_of (own := "OrreryBox$Packer") (plainFor_of_name (by decide)) rfl (Nat.le_of_ble_eq_true rfl) (fun p e s m below meth c F hr hin hH => ?_)
  refine zr_aload_n F zd_XPacker_write_0 rfl ?_
  refine zr_aload_n F zd_XPacker_write_1 rfl ?_
  refine zr_iload_n F zd_XPacker_write_2 rfl ?_
  refine zr_iload_n F zd_XPacker_write_3 rfl ?_
  refine zr_imul F zd_XPacker_write_4 ?_
  obtain ⟨le2, hs1, h⟩ := zoS_s h
  obtain ⟨p3, ep3, h⟩ := zoB_s h
  refine zr_callV0 F (k_XPacker_makeRaw l D tA b sh _ ep3) zd_XPacker_write_5 (zW_o hs1 (by decide)) rfl zs_XPacker_28 rfl zq_XPacker_makeRaw rfl rfl ⟨(Nat.le_of_ble_eq_true rfl), (Nat.le_of_ble_eq_true rfl)⟩ (Nat.le_of_ble_eq_true rfl) ⟨(Nat.le_of_ble_eq_true rfl), (Nat.le_of_ble_eq_true rfl)⟩ ?_
  refine zr_aload_n F zd_XPacker_write_8 rfl ?_
  refine zr_pcn 9 rfl ?_
  refine zr_iconstv (v := 3) F zd_XPacker_write_9 (by decide) ?_
  refine zr_iload_n F zd_XPacker_write_10 rfl ?_
  refine zr_imul F zd_XPacker_write_11 ?_
  refine zr_iload_n F zd_XPacker_write_12 rfl ?_
  obtain ⟨le5, hs4, h⟩ := zoS_s h
  obtain ⟨p6, ep6, h⟩ := zoB_s h
  refine zr_callV0 F (k_XPacker_makeRows l D tA b sh _ ep6) zd_XPacker_write_13 (zW_o hs4 (by decide)) rfl zs_XPacker_32 rfl zq_XPacker_makeRows rfl rfl ⟨(Nat.le_of_ble_eq_true rfl), (Nat.le_of_ble_eq_true rfl)⟩ (Nat.le_of_ble_eq_true rfl) ⟨(Nat.le_of_ble_eq_true rfl), (Nat.le_of_ble_eq_true rfl)⟩ ?_
  refine zr_aload_n F zd_XPacker_write_16 rfl ?_
  refine zr_iconstv (v := 0) F zd_XPacker_write_17 (by decide) ?_
  obtain ⟨le8, hs7, h⟩ := zoS_s h
  refine zr_put F 4 1 zd_XPacker_write_18 (zW_o hs7 (by decide)) rfl (by decide) zw_83 rfl rfl rfl rfl (by exact (Nat.le_of_ble_eq_true rfl)) ?_
  obtain ⟨mm9, emm9, h⟩ := zoL_s h
  refine zr_norm (zW tA b sh mm9) _ (by rw [emm9]; exact zW_pI (v := 0) hs7 (by decide) (zf_I_4_1 b _ _ _)) rfl ?_
  refine zr_pcn 21 rfl ?_
  refine zr_aload_n F zd_XPacker_write_21 rfl ?_
  refine zr_ldc F zd_XPacker_write_22 zw_935 ?_
  obtain ⟨le11, hs10, h⟩ := zoS_s h
  obtain ⟨p12, ep12, h⟩ := zoB_s h
  refine zr_callV0 F (k_XPacker_putNumber l D tA b sh _ ep12) zd_XPacker_write_24 (zW_o hs10 (by decide)) rfl zs_XPacker_41 rfl zq_XPacker_putNumber rfl rfl ⟨(Nat.le_of_ble_eq_true rfl), (Nat.le_of_ble_eq_true rfl)⟩ (Nat.le_of_ble_eq_true rfl) ⟨(Nat.le_of_ble_eq_true rfl), (Nat.le_of_ble_eq_true rfl)⟩ ?_
  refine zr_aload_n F zd_XPacker_write_27 rfl ?_
  refine zr_ldc F zd_XPacker_write_28 zw_944 ?_
  obtain ⟨le14, hs13, h⟩ := zoS_s h
  obtain ⟨p15, ep15, h⟩ := zoB_s h
  refine zr_callV0 F (k_XPacker_putNumber l D tA b sh _ ep15) zd_XPacker_write_30 (zW_o hs13 (by decide)) rfl zs_XPacker_41 rfl zq_XPacker_putNumber rfl rfl ⟨(Nat.le_of_ble_eq_true rfl), (Nat.le_of_ble_eq_true rfl)⟩ (Nat.le_of_ble_eq_true rfl) ⟨(Nat.le_of_ble_eq_true rfl), (Nat.le_of_ble_eq_true rfl)⟩ ?_
  refine zr_aload_n F zd_XPacker_write_33 rfl ?_
  refine zr_ldcS F 0 "IHDR" zd_XPacker_write_34 (by decide +kernel) ?_
  refine zr_pcn 36 rfl ?_
  obtain ⟨le17, hs16, h⟩ := zoS_s h
  obtain ⟨p18, ep18, h⟩ := zoB_s h
  refine zr_callV1 F (k_XPacker_openChunk l D tA b sh _ ep18) zd_XPacker_write_36 (zW_o hs16 (by decide)) rfl zs_XPacker_48 rfl zq_XPacker_openChunk rfl rfl ⟨(Nat.le_of_ble_eq_true rfl), (Nat.le_of_ble_eq_true rfl)⟩ (Nat.le_of_ble_eq_true rfl) ⟨(Nat.le_of_ble_eq_true rfl), (Nat.le_of_ble_eq_true rfl)⟩ ?_
  refine zr_istore F zd_XPacker_write_39 (by decide) ?_
  refine zr_aload_n F zd_XPacker_write_41 rfl ?_
  refine zr_iload_n F zd_XPacker_write_42 rfl ?_
  obtain ⟨le20, hs19, h⟩ := zoS_s h
  obtain ⟨p21, ep21, h⟩ := zoB_s h
  refine zr_callV0 F (k_XPacker_putNumber l D tA b sh _ ep21) zd_XPacker_write_43 (zW_o hs19 (by decide)) rfl zs_XPacker_41 rfl zq_XPacker_putNumber rfl rfl ⟨(Nat.le_of_ble_eq_true rfl), (Nat.le_of_ble_eq_true rfl)⟩ (Nat.le_of_ble_eq_true rfl) ⟨(Nat.le_of_ble_eq_true rfl), (Nat.le_of_ble_eq_true rfl)⟩ ?_
  refine zr_aload_n F zd_XPacker_write_46 rfl ?_
  refine zr_iload_n F zd_XPacker_write_47 rfl ?_
  obtain ⟨le23, hs22, h⟩ := zoS_s h
  obtain ⟨p24, ep24, h⟩ := zoB_s h
  refine zr_callV0 F (k_XPacker_putNumber l D tA b sh _ ep24) zd_XPacker_write_48 (zW_o hs22 (by decide)) rfl zs_XPacker_41 rfl zq_XPacker_putNumber rfl rfl ⟨(Nat.le_of_ble_eq_true rfl), (Nat.le_of_ble_eq_true rfl)⟩ (Nat.le_of_ble_eq_true rfl) ⟨(Nat.le_of_ble_eq_true rfl), (Nat.le_of_ble_eq_true rfl)⟩ ?_
  refine zr_pcn 51 rfl ?_
  refine zr_aload_n F zd_XPacker_write_51 rfl ?_
  refine zr_ldc F zd_XPacker_write_52 zw_998 ?_
  obtain ⟨le26, hs25, h⟩ := zoS_s h
  obtain ⟨p27, ep27, h⟩ := zoB_s h
  refine zr_callV0 F (k_XPacker_putNumber l D tA b sh _ ep27) zd_XPacker_write_54 (zW_o hs25 (by decide)) rfl zs_XPacker_41 rfl zq_XPacker_putNumber rfl rfl ⟨(Nat.le_of_ble_eq_true rfl), (Nat.le_of_ble_eq_true rfl)⟩ (Nat.le_of_ble_eq_true rfl) ⟨(Nat.le_of_ble_eq_true rfl), (Nat.le_of_ble_eq_true rfl)⟩ ?_
  refine zr_aload_n F zd_XPacker_write_57 rfl ?_
  refine zr_iconstv (v := 0) F zd_XPacker_write_58 (by decide) ?_
  obtain ⟨le29, hs28, h⟩ := zoS_s h
  obtain ⟨p30, ep30, h⟩ := zoB_s h
  refine zr_callV0 F (k_XPacker_putByte l D tA b sh _ ep30) zd_XPacker_write_59 (zW_o hs28 (by decide)) rfl zs_XPacker_53 rfl zq_XPacker_putByte rfl rfl ⟨(Nat.le_of_ble_eq_true rfl), (Nat.le_of_ble_eq_true rfl)⟩ (Nat.le_of_ble_eq_true rfl) ⟨(Nat.le_of_ble_eq_true rfl), (Nat.le_of_ble_eq_true rfl)⟩ ?_
  refine zr_aload_n F zd_XPacker_write_62 rfl ?_
  refine zr_iload F zd_XPacker_write_63 rfl ?_
  refine zr_pcn 65 rfl ?_
  obtain ⟨le32, hs31, h⟩ := zoS_s h
  obtain ⟨p33, ep33, h⟩ := zoB_s h
  refine zr_callV0 F (k_XPacker_closeChunk l D tA b sh _ ep33) zd_XPacker_write_65 (zW_o hs31 (by decide)) rfl zs_XPacker_56 rfl zq_XPacker_closeChunk rfl rfl ⟨(Nat.le_of_ble_eq_true rfl), (Nat.le_of_ble_eq_true rfl)⟩ (Nat.le_of_ble_eq_true rfl) ⟨(Nat.le_of_ble_eq_true rfl), (Nat.le_of_ble_eq_true rfl)⟩ ?_
  refine zr_aload_n F zd_XPacker_write_68 rfl ?_
  refine zr_ldcS F 1 "IDAT" zd_XPacker_write_69 (by decide +kernel) ?_
  obtain ⟨le35, hs34, h⟩ := zoS_s h
  obtain ⟨p36, ep36, h⟩ := zoB_s h
  refine zr_callV1 F (k_XPacker_openChunk l D tA b sh _ ep36) zd_XPacker_write_71 (zW_o hs34 (by decide)) rfl zs_XPacker_48 rfl zq_XPacker_openChunk rfl rfl ⟨(Nat.le_of_ble_eq_true rfl), (Nat.le_of_ble_eq_true rfl)⟩ (Nat.le_of_ble_eq_true rfl) ⟨(Nat.le_of_ble_eq_true rfl), (Nat.le_of_ble_eq_true rfl)⟩ ?_
  refine zr_istore F zd_XPacker_write_74 (by decide) ?_
  refine zr_aload_n F zd_XPacker_write_76 rfl ?_
  refine zr_bipushv (v := 120) F zd_XPacker_write_77 (by decide) ?_
  obtain ⟨le38, hs37, h⟩ := zoS_s h
  obtain ⟨p39, ep39, h⟩ := zoB_s h
  refine zr_callV0 F (k_XPacker_putByte l D tA b sh _ ep39) zd_XPacker_write_79 (zW_o hs37 (by decide)) rfl zs_XPacker_53 rfl zq_XPacker_putByte rfl rfl ⟨(Nat.le_of_ble_eq_true rfl), (Nat.le_of_ble_eq_true rfl)⟩ (Nat.le_of_ble_eq_true rfl) ⟨(Nat.le_of_ble_eq_true rfl), (Nat.le_of_ble_eq_true rfl)⟩ ?_
  refine zr_pcn 82 rfl ?_
  refine zr_aload_n F zd_XPacker_write_82 rfl ?_
  refine zr_iconstv (v := 1) F zd_XPacker_write_83 (by decide) ?_
  obtain ⟨le41, hs40, h⟩ := zoS_s h
  obtain ⟨p42, ep42, h⟩ := zoB_s h
  refine zr_callV0 F (k_XPacker_putByte l D tA b sh _ ep42) zd_XPacker_write_84 (zW_o hs40 (by decide)) rfl zs_XPacker_53 rfl zq_XPacker_putByte rfl rfl ⟨(Nat.le_of_ble_eq_true rfl), (Nat.le_of_ble_eq_true rfl)⟩ (Nat.le_of_ble_eq_true rfl) ⟨(Nat.le_of_ble_eq_true rfl), (Nat.le_of_ble_eq_true rfl)⟩ ?_
  refine zr_aload_n F zd_XPacker_write_87 rfl ?_
  obtain ⟨le44, hs43, h⟩ := zoS_s h
  obtain ⟨p45, ep45, h⟩ := zoB_s h
  refine zr_callV0 F (k_XPacker_packRows l D tA b sh _ ep45) zd_XPacker_write_88 (zW_o hs43 (by decide)) rfl zs_XPacker_61 rfl zq_XPacker_packRows rfl rfl ⟨(Nat.le_of_ble_eq_true rfl), (Nat.le_of_ble_eq_true rfl)⟩ (Nat.le_of_ble_eq_true rfl) ⟨(Nat.le_of_ble_eq_true rfl), (Nat.le_of_ble_eq_true rfl)⟩ ?_
  refine zr_aload_n F zd_XPacker_write_91 rfl ?_
  refine zr_aload_n F zd_XPacker_write_92 rfl ?_
  obtain ⟨le47, hs46, h⟩ := zoS_s h
  obtain ⟨p48, ep48, h⟩ := zoB_s h
  refine zr_callV1 F (k_XPacker_sumOfRows l D tA b sh _ ep48) zd_XPacker_write_93 (zW_o hs46 (by decide)) rfl zs_XPacker_64 rfl zq_XPacker_sumOfRows rfl rfl ⟨(Nat.le_of_ble_eq_true rfl), (Nat.le_of_ble_eq_true rfl)⟩ (Nat.le_of_ble_eq_true rfl) ⟨(Nat.le_of_ble_eq_true rfl), (Nat.le_of_ble_eq_true rfl)⟩ ?_
  refine zr_pcn 96 rfl ?_
  obtain ⟨le50, hs49, h⟩ := zoS_s h
  obtain ⟨p51, ep51, h⟩ := zoB_s h
  refine zr_callV0 F (k_XPacker_putNumber l D tA b sh _ ep51) zd_XPacker_write_96 (zW_o hs49 (by decide)) rfl zs_XPacker_41 rfl zq_XPacker_putNumber rfl rfl ⟨(Nat.le_of_ble_eq_true rfl), (Nat.le_of_ble_eq_true rfl)⟩ (Nat.le_of_ble_eq_true rfl) ⟨(Nat.le_of_ble_eq_true rfl), (Nat.le_of_ble_eq_true rfl)⟩ ?_
  refine zr_aload_n F zd_XPacker_write_99 rfl ?_
  refine zr_iload F zd_XPacker_write_100 rfl ?_
  obtain ⟨le53, hs52, h⟩ := zoS_s h
  obtain ⟨p54, ep54, h⟩ := zoB_s h
  refine zr_callV0 F (k_XPacker_closeChunk l D tA b sh _ ep54) zd_XPacker_write_102 (zW_o hs52 (by decide)) rfl zs_XPacker_56 rfl zq_XPacker_closeChunk rfl rfl ⟨(Nat.le_of_ble_eq_true rfl), (Nat.le_of_ble_eq_true rfl)⟩ (Nat.le_of_ble_eq_true rfl) ⟨(Nat.le_of_ble_eq_true rfl), (Nat.le_of_ble_eq_true rfl)⟩ ?_
  refine zr_aload_n F zd_XPacker_write_105 rfl ?_
  refine zr_aload_n F zd_XPacker_write_106 rfl ?_
  refine zr_ldcS F 2 "IEND" zd_XPacker_write_107 (by decide +kernel) ?_
  obtain ⟨le56, hs55, h⟩ := zoS_s h
  obtain ⟨p57, ep57, h⟩ := zoB_s h
  refine zr_callV1 F (k_XPacker_openChunk l D tA b sh _ ep57) zd_XPacker_write_109 (zW_o hs55 (by decide)) rfl zs_XPacker_48 rfl zq_XPacker_openChunk rfl rfl ⟨(Nat.le_of_ble_eq_true rfl), (Nat.le_of_ble_eq_true rfl)⟩ (Nat.le_of_ble_eq_true rfl) ⟨(Nat.le_of_ble_eq_true rfl), (Nat.le_of_ble_eq_true rfl)⟩ ?_
  refine zr_pcn 112 rfl ?_
  obtain ⟨le59, hs58, h⟩ := zoS_s h
  obtain ⟨p60, ep60, h⟩ := zoB_s h
  refine zr_callV0 F (k_XPacker_closeChunk l D tA b sh _ ep60) zd_XPacker_write_112 (zW_o hs58 (by decide)) rfl zs_XPacker_56 rfl zq_XPacker_closeChunk rfl rfl ⟨(Nat.le_of_ble_eq_true rfl), (Nat.le_of_ble_eq_true rfl)⟩ (Nat.le_of_ble_eq_true rfl) ⟨(Nat.le_of_ble_eq_true rfl), (Nat.le_of_ble_eq_true rfl)⟩ ?_
  obtain rfl := Option.some.inj h
  exact zr_vret F hr zd_XPacker_write_115 (Nat.le_of_ble_eq_true rfl) (Nat.le_of_ble_eq_true rfl) ⟨rfl, rfl, rfl⟩
