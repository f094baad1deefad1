abbrev zb_XReader_readCamera : ByteArray := prog_8_method_10_code
def zy_XReader_readCamera : MethodName := ⟨"OrreryBox$Reader", "readCamera", "()V"⟩
theorem zc_XReader_readCamera : Cond.code zy_XReader_readCamera zb_XReader_readCamera 1 none ∈ gw := gw_t 1183 (by decide +kernel) rfl
theorem zq_XReader_readCamera : zy_XReader_readCamera.cls ≠ "java/lang/invoke/MethodHandle" ∧ zy_XReader_readCamera.cls ≠ "java/lang/invoke/VarHandle" ∧ (parseMethodDescriptor zy_XReader_readCamera.desc).map (fun d => d.parameters.length) = some 0 := by decide +kernel
theorem zd_XReader_readCamera_0 : decode zb_XReader_readCamera 0 = .ok (.aload_n 0, 1) := by decide +kernel
theorem zd_XReader_readCamera_1 : decode zb_XReader_readCamera 1 = .ok (.bipush 123, 2) := by decide +kernel
theorem zd_XReader_readCamera_3 : decode zb_XReader_readCamera 3 = .ok (.invokevirtual 45, 3) := by decide +kernel
theorem zd_XReader_readCamera_6 : decode zb_XReader_readCamera 6 = .ok (.aload_n 0, 1) := by decide +kernel
theorem zd_XReader_readCamera_7 : decode zb_XReader_readCamera 7 = .ok (.ldc 226, 2) := by decide +kernel
theorem zd_XReader_readCamera_9 : decode zb_XReader_readCamera 9 = .ok (.iconst 3, 1) := by decide +kernel
theorem zd_XReader_readCamera_10 : decode zb_XReader_readCamera 10 = .ok (.iconst 3, 1) := by decide +kernel
theorem zd_XReader_readCamera_11 : decode zb_XReader_readCamera 11 = .ok (.ldc 228, 2) := by decide +kernel
theorem zd_XReader_readCamera_13 : decode zb_XReader_readCamera 13 = .ok (.ldc 229, 2) := by decide +kernel
theorem zd_XReader_readCamera_15 : decode zb_XReader_readCamera 15 = .ok (.iconst 0, 1) := by decide +kernel
theorem zd_XReader_readCamera_16 : decode zb_XReader_readCamera 16 = .ok (.invokevirtual 160, 3) := by decide +kernel
theorem zd_XReader_readCamera_19 : decode zb_XReader_readCamera 19 = .ok (.pop, 1) := by decide +kernel
theorem zd_XReader_readCamera_20 : decode zb_XReader_readCamera 20 = .ok (.aload_n 0, 1) := by decide +kernel
theorem zd_XReader_readCamera_21 : decode zb_XReader_readCamera 21 = .ok (.getfield 9, 3) := by decide +kernel
theorem zd_XReader_readCamera_24 : decode zb_XReader_readCamera 24 = .ok (.iconst 0, 1) := by decide +kernel
theorem zd_XReader_readCamera_25 : decode zb_XReader_readCamera 25 = .ok (.aload_n 0, 1) := by decide +kernel
theorem zd_XReader_readCamera_26 : decode zb_XReader_readCamera 26 = .ok (.getfield 23, 3) := by decide +kernel
theorem zd_XReader_readCamera_29 : decode zb_XReader_readCamera 29 = .ok (.getfield 266, 3) := by decide +kernel
theorem zd_XReader_readCamera_32 : decode zb_XReader_readCamera 32 = .ok (.iconst 0, 1) := by decide +kernel
theorem zd_XReader_readCamera_33 : decode zb_XReader_readCamera 33 = .ok (.iconst 3, 1) := by decide +kernel
theorem zd_XReader_readCamera_34 : decode zb_XReader_readCamera 34 = .ok (.invokestatic 169, 3) := by decide +kernel
theorem zd_XReader_readCamera_37 : decode zb_XReader_readCamera 37 = .ok (.aload_n 0, 1) := by decide +kernel
theorem zd_XReader_readCamera_38 : decode zb_XReader_readCamera 38 = .ok (.bipush 44, 2) := by decide +kernel
theorem zd_XReader_readCamera_40 : decode zb_XReader_readCamera 40 = .ok (.invokevirtual 45, 3) := by decide +kernel
theorem zd_XReader_readCamera_43 : decode zb_XReader_readCamera 43 = .ok (.aload_n 0, 1) := by decide +kernel
theorem zd_XReader_readCamera_44 : decode zb_XReader_readCamera 44 = .ok (.ldc 232, 2) := by decide +kernel
theorem zd_XReader_readCamera_46 : decode zb_XReader_readCamera 46 = .ok (.iconst 3, 1) := by decide +kernel
theorem zd_XReader_readCamera_47 : decode zb_XReader_readCamera 47 = .ok (.iconst 3, 1) := by decide +kernel
theorem zd_XReader_readCamera_48 : decode zb_XReader_readCamera 48 = .ok (.ldc 187, 2) := by decide +kernel
theorem zd_XReader_readCamera_50 : decode zb_XReader_readCamera 50 = .ok (.ldc 188, 2) := by decide +kernel
theorem zd_XReader_readCamera_52 : decode zb_XReader_readCamera 52 = .ok (.iconst 0, 1) := by decide +kernel
theorem zd_XReader_readCamera_53 : decode zb_XReader_readCamera 53 = .ok (.invokevirtual 160, 3) := by decide +kernel
theorem zd_XReader_readCamera_56 : decode zb_XReader_readCamera 56 = .ok (.pop, 1) := by decide +kernel
theorem zd_XReader_readCamera_57 : decode zb_XReader_readCamera 57 = .ok (.aload_n 0, 1) := by decide +kernel
theorem zd_XReader_readCamera_58 : decode zb_XReader_readCamera 58 = .ok (.getfield 9, 3) := by decide +kernel
theorem zd_XReader_readCamera_61 : decode zb_XReader_readCamera 61 = .ok (.iconst 0, 1) := by decide +kernel
theorem zd_XReader_readCamera_62 : decode zb_XReader_readCamera 62 = .ok (.aload_n 0, 1) := by decide +kernel
theorem zd_XReader_readCamera_63 : decode zb_XReader_readCamera 63 = .ok (.getfield 23, 3) := by decide +kernel
theorem zd_XReader_readCamera_66 : decode zb_XReader_readCamera 66 = .ok (.getfield 266, 3) := by decide +kernel
theorem zd_XReader_readCamera_69 : decode zb_XReader_readCamera 69 = .ok (.iconst 3, 1) := by decide +kernel
theorem zd_XReader_readCamera_70 : decode zb_XReader_readCamera 70 = .ok (.iconst 3, 1) := by decide +kernel
theorem zd_XReader_readCamera_71 : decode zb_XReader_readCamera 71 = .ok (.invokestatic 169, 3) := by decide +kernel
theorem zd_XReader_readCamera_74 : decode zb_XReader_readCamera 74 = .ok (.aload_n 0, 1) := by decide +kernel
theorem zd_XReader_readCamera_75 : decode zb_XReader_readCamera 75 = .ok (.bipush 44, 2) := by decide +kernel
theorem zd_XReader_readCamera_77 : decode zb_XReader_readCamera 77 = .ok (.invokevirtual 45, 3) := by decide +kernel
theorem zd_XReader_readCamera_80 : decode zb_XReader_readCamera 80 = .ok (.aload_n 0, 1) := by decide +kernel
theorem zd_XReader_readCamera_81 : decode zb_XReader_readCamera 81 = .ok (.getfield 23, 3) := by decide +kernel
theorem zd_XReader_readCamera_84 : decode zb_XReader_readCamera 84 = .ok (.getfield 266, 3) := by decide +kernel
theorem zd_XReader_readCamera_87 : decode zb_XReader_readCamera 87 = .ok (.bipush 6, 2) := by decide +kernel
theorem zd_XReader_readCamera_89 : decode zb_XReader_readCamera 89 = .ok (.aload_n 0, 1) := by decide +kernel
theorem zd_XReader_readCamera_90 : decode zb_XReader_readCamera 90 = .ok (.ldc_w 269, 3) := by decide +kernel
theorem zd_XReader_readCamera_93 : decode zb_XReader_readCamera 93 = .ok (.bipush 8, 2) := by decide +kernel
theorem zd_XReader_readCamera_95 : decode zb_XReader_readCamera 95 = .ok (.sipush 512, 3) := by decide +kernel
theorem zd_XReader_readCamera_98 : decode zb_XReader_readCamera 98 = .ok (.invokevirtual 138, 3) := by decide +kernel
theorem zd_XReader_readCamera_101 : decode zb_XReader_readCamera 101 = .ok (.iastore, 1) := by decide +kernel
theorem zd_XReader_readCamera_102 : decode zb_XReader_readCamera 102 = .ok (.aload_n 0, 1) := by decide +kernel
theorem zd_XReader_readCamera_103 : decode zb_XReader_readCamera 103 = .ok (.bipush 125, 2) := by decide +kernel
theorem zd_XReader_readCamera_105 : decode zb_XReader_readCamera 105 = .ok (.invokevirtual 45, 3) := by decide +kernel
theorem zd_XReader_readCamera_108 : decode zb_XReader_readCamera 108 = .ok (.return_, 1) := by decide +kernel
theorem zw_303 : (Jvm.Cond.fieldLink "OrreryBox$Reader" (266 : Nat) "OrreryBox$Scene" "viewer" "[I") ∈ gw := gw_t 303 (by decide +kernel) rfl
def F_XReader_readCamera (sh : zSh) (mm : zMem) (o : Nat) : Option zMem := zoS (sh o) 7 (fun le2 => Option.bind (F_XReader_need sh mm o 123) (fun p3 => zoS (sh o) 7 (fun le5 => Option.bind (F_XReader_numbers sh p3 o 10 3 3 (-4194304) 4194304 0) (fun p6 => zoS (sh o) 7 (fun le8 => Option.bind ((p6.2).2.2 o 2) (fun a9 => zoS (sh o) 7 (fun le11 => Option.bind ((p6.2).2.2 o 7) (fun a12 => zoS (sh a12) 8 (fun le14 => Option.bind ((p6.2).2.2 a12 6) (fun a15 => zoS (sh a9) 100 (fun le16 => zoS (sh a15) 100 (fun le18 => if ¬ (0 : Int32) < 0 ∧ ¬ (0 : Int32) < 0 ∧ ¬ (3 : Int32) < 0 ∧ (0 : Int32).toNatClampNeg + (3 : Int32).toNatClampNeg ≤ le16 ∧ (0 : Int32).toNatClampNeg + (3 : Int32).toNatClampNeg ≤ le18 then zoL (mC (p6.2) a9 a15 (0 : Int32).toNatClampNeg (0 : Int32).toNatClampNeg (3 : Int32).toNatClampNeg) (fun mm21 => zoS (sh o) 7 (fun le23 => Option.bind (F_XReader_need sh mm21 o 44) (fun p24 => zoS (sh o) 7 (fun le26 => Option.bind (F_XReader_numbers sh p24 o 11 3 3 (-1048576) 1048576 0) (fun p27 => zoS (sh o) 7 (fun le29 => Option.bind ((p27.2).2.2 o 2) (fun a30 => zoS (sh o) 7 (fun le32 => Option.bind ((p27.2).2.2 o 7) (fun a33 => zoS (sh a33) 8 (fun le35 => Option.bind ((p27.2).2.2 a33 6) (fun a36 => zoS (sh a30) 100 (fun le37 => zoS (sh a36) 100 (fun le39 => if ¬ (0 : Int32) < 0 ∧ ¬ (3 : Int32) < 0 ∧ ¬ (3 : Int32) < 0 ∧ (0 : Int32).toNatClampNeg + (3 : Int32).toNatClampNeg ≤ le37 ∧ (3 : Int32).toNatClampNeg + (3 : Int32).toNatClampNeg ≤ le39 then zoL (mC (p27.2) a30 a36 (0 : Int32).toNatClampNeg (3 : Int32).toNatClampNeg (3 : Int32).toNatClampNeg) (fun mm42 => zoS (sh o) 7 (fun le44 => Option.bind (F_XReader_need sh mm42 o 44) (fun p45 => zoS (sh o) 7 (fun le47 => Option.bind (p45.2.2 o 7) (fun a48 => zoS (sh a48) 8 (fun le50 => Option.bind (p45.2.2 a48 6) (fun a51 => zoS (sh o) 7 (fun le53 => Option.bind (F_XReader_number sh p45 o 12 8 512) (fun p54 => zoS (sh a51) 100 (fun le56 => if (6 : Int32) < 0 ∨ le56 ≤ (6 : Int32).toNatClampNeg then none else zoL (mI (p54.2) a51 (6 : Int32).toNatClampNeg (p54.1)) (fun mm58 => zoS (sh o) 7 (fun le60 => Option.bind (F_XReader_need sh mm58 o 125) (fun p61 => some p61))))))))))))) else none))))))))))))) else none))))))))))))
set_option maxHeartbeats 4000000 in
set_option maxRecDepth 100000 in
theorem k_XReader_readCamera (l : Launch) (D : va_G) (tA : Nat → ClassId) (b : Nat) (sh : zSh) (n : Nat) {mm : zMem} {o : Nat} {r : zMem} (h : F_XReader_readCamera sh mm o = some r) : zM l D tA b zy_XReader_readCamera zb_XReader_readCamera 1 none 7 158 0 0 [.ref (b + o)] (zW tA b sh mm) n (zE none (zW tA b sh r) n) := by
  unfold F_XReader_readCamera at h
  refine zM_of (own := "OrreryBox$Reader") (plainFor_of_name (by decide)) rfl (Nat.le_of_ble_eq_true rfl) (fun p e s m below meth c F hr hin hH => ?_)
  refine zr_aload_n F zd_XReader_readCamera_0 rfl ?_
  refine zr_bipushv (v := 123) F zd_XReader_readCamera_1 (by decide) ?_
  obtain ⟨le2, hs1, h⟩ := zoS_s h
  obtain ⟨p3, ep3, h⟩ := zoB_s h
  refine zr_callV0 F (k_XReader_need l D tA b sh _ ep3) zd_XReader_readCamera_3 (zW_o hs1 (by decide)) rfl zs_XReader_45 rfl zq_XReader_need rfl rfl ⟨(Nat.le_of_ble_eq_true rfl), (Nat.le_of_ble_eq_true rfl)⟩ (Nat.le_of_ble_eq_true rfl) ⟨(Nat.le_of_ble_eq_true rfl), (Nat.le_of_ble_eq_true rfl)⟩ ?_
  refine zr_aload_n F zd_XReader_readCamera_6 rfl ?_
  refine zr_ldcS F 10 "move" zd_XReader_readCamera_7 (by decide +kernel) ?_
  refine zr_iconstv (v := 3) F zd_XReader_readCamera_9 (by decide) ?_
  refine zr_iconstv (v := 3) F zd_XReader_readCamera_10 (by decide) ?_
  refine zr_pcn 11 rfl ?_
  refine zr_ldc F zd_XReader_readCamera_11 zw_1185 ?_
  refine zr_ldc F zd_XReader_readCamera_13 zw_1186 ?_
  refine zr_iconstv (v := 0) F zd_XReader_readCamera_15 (by decide) ?_
  obtain ⟨le5, hs4, h⟩ := zoS_s h
  obtain ⟨p6, ep6, h⟩ := zoB_s h
  refine zr_callV1 F (k_XReader_numbers l D tA b sh _ ep6) zd_XReader_readCamera_16 (zW_o hs4 (by decide)) rfl zs_XReader_160 rfl zq_XReader_numbers rfl rfl ⟨(Nat.le_of_ble_eq_true rfl), (Nat.le_of_ble_eq_true rfl)⟩ (Nat.le_of_ble_eq_true rfl) ⟨(Nat.le_of_ble_eq_true rfl), (Nat.le_of_ble_eq_true rfl)⟩ ?_
  refine zr_pop F zd_XReader_readCamera_19 rfl ?_
  refine zr_aload_n F zd_XReader_readCamera_20 rfl ?_
  obtain ⟨le8, hs7, h⟩ := zoS_s h
  obtain ⟨a9, ea9, h⟩ := zoB_s h
  refine zr_get F 7 2 zd_XReader_readCamera_21 (zW_o hs7 (by decide)) rfl (by decide) zw_50 rfl (by rfl) ?_
  refine zr_tor ea9 ?_
  refine zr_iconstv (v := 0) F zd_XReader_readCamera_24 (by decide) ?_
  refine zr_pcn 25 rfl ?_
  refine zr_aload_n F zd_XReader_readCamera_25 rfl ?_
  obtain ⟨le11, hs10, h⟩ := zoS_s h
  obtain ⟨a12, ea12, h⟩ := zoB_s h
  refine zr_get F 7 7 zd_XReader_readCamera_26 (zW_o hs10 (by decide)) rfl (by decide) zw_55 rfl (by rfl) ?_
  refine zr_tor ea12 ?_
  obtain ⟨le14, hs13, h⟩ := zoS_s h
  obtain ⟨a15, ea15, h⟩ := zoB_s h
  refine zr_get F 8 6 zd_XReader_readCamera_29 (zW_o hs13 (by decide)) rfl (by decide) zw_303 rfl (by rfl) ?_
  refine zr_tor ea15 ?_
  refine zr_iconstv (v := 0) F zd_XReader_readCamera_32 (by decide) ?_
  refine zr_iconstv (v := 3) F zd_XReader_readCamera_33 (by decide) ?_
  obtain ⟨le16, hs17, h⟩ := zoS_s h
  obtain ⟨le18, hs19, h⟩ := zoS_s h
  obtain ⟨hc20, h⟩ := zoT_s h
  obtain ⟨mm21, emm21, h⟩ := zoL_s h
  refine zr_copy F zd_XReader_readCamera_34 zw_1202 zw_724 zw_723 zw_26 (zW_a0 hs17) (zW_a0 hs19) hc20.1 hc20.2.1 hc20.2.2.1 hc20.2.2.2.1 hc20.2.2.2.2 (Nat.le_of_ble_eq_true rfl) (Nat.le_of_ble_eq_true rfl) ?_
  refine zr_norm (zW tA b sh mm21) _ (by rw [emm21]; exact zW_c hs19) rfl ?_
  refine zr_aload_n F zd_XReader_readCamera_37 rfl ?_
  refine zr_bipushv (v := 44) F zd_XReader_readCamera_38 (by decide) ?_
  refine zr_pcn 40 rfl ?_
  obtain ⟨le23, hs22, h⟩ := zoS_s h
  obtain ⟨p24, ep24, h⟩ := zoB_s h
  refine zr_callV0 F (k_XReader_need l D tA b sh _ ep24) zd_XReader_readCamera_40 (zW_o hs22 (by decide)) rfl zs_XReader_45 rfl zq_XReader_need rfl rfl ⟨(Nat.le_of_ble_eq_true rfl), (Nat.le_of_ble_eq_true rfl)⟩ (Nat.le_of_ble_eq_true rfl) ⟨(Nat.le_of_ble_eq_true rfl), (Nat.le_of_ble_eq_true rfl)⟩ ?_
  refine zr_aload_n F zd_XReader_readCamera_43 rfl ?_
  refine zr_ldcS F 11 "turn" zd_XReader_readCamera_44 (by decide +kernel) ?_
  refine zr_iconstv (v := 3) F zd_XReader_readCamera_46 (by decide) ?_
  refine zr_iconstv (v := 3) F zd_XReader_readCamera_47 (by decide) ?_
  refine zr_ldc F zd_XReader_readCamera_48 zw_1204 ?_
  refine zr_ldc F zd_XReader_readCamera_50 zw_1205 ?_
  refine zr_iconstv (v := 0) F zd_XReader_readCamera_52 (by decide) ?_
  refine zr_pcn 53 rfl ?_
  obtain ⟨le26, hs25, h⟩ := zoS_s h
  obtain ⟨p27, ep27, h⟩ := zoB_s h
  refine zr_callV1 F (k_XReader_numbers l D tA b sh _ ep27) zd_XReader_readCamera_53 (zW_o hs25 (by decide)) rfl zs_XReader_160 rfl zq_XReader_numbers rfl rfl ⟨(Nat.le_of_ble_eq_true rfl), (Nat.le_of_ble_eq_true rfl)⟩ (Nat.le_of_ble_eq_true rfl) ⟨(Nat.le_of_ble_eq_true rfl), (Nat.le_of_ble_eq_true rfl)⟩ ?_
  refine zr_pop F zd_XReader_readCamera_56 rfl ?_
  refine zr_aload_n F zd_XReader_readCamera_57 rfl ?_
  obtain ⟨le29, hs28, h⟩ := zoS_s h
  obtain ⟨a30, ea30, h⟩ := zoB_s h
  refine zr_get F 7 2 zd_XReader_readCamera_58 (zW_o hs28 (by decide)) rfl (by decide) zw_50 rfl (by rfl) ?_
  refine zr_tor ea30 ?_
  refine zr_iconstv (v := 0) F zd_XReader_readCamera_61 (by decide) ?_
  refine zr_aload_n F zd_XReader_readCamera_62 rfl ?_
  obtain ⟨le32, hs31, h⟩ := zoS_s h
  obtain ⟨a33, ea33, h⟩ := zoB_s h
  refine zr_get F 7 7 zd_XReader_readCamera_63 (zW_o hs31 (by decide)) rfl (by decide) zw_55 rfl (by rfl) ?_
  refine zr_tor ea33 ?_
  obtain ⟨le35, hs34, h⟩ := zoS_s h
  obtain ⟨a36, ea36, h⟩ := zoB_s h
  refine zr_get F 8 6 zd_XReader_readCamera_66 (zW_o hs34 (by decide)) rfl (by decide) zw_303 rfl (by rfl) ?_
  refine zr_tor ea36 ?_
  refine zr_pcn 69 rfl ?_
  refine zr_iconstv (v := 3) F zd_XReader_readCamera_69 (by decide) ?_
  refine zr_iconstv (v := 3) F zd_XReader_readCamera_70 (by decide) ?_
  obtain ⟨le37, hs38, h⟩ := zoS_s h
  obtain ⟨le39, hs40, h⟩ := zoS_s h
  obtain ⟨hc41, h⟩ := zoT_s h
  obtain ⟨mm42, emm42, h⟩ := zoL_s h
  refine zr_copy F zd_XReader_readCamera_71 zw_1202 zw_724 zw_723 zw_26 (zW_a0 hs38) (zW_a0 hs40) hc41.1 hc41.2.1 hc41.2.2.1 hc41.2.2.2.1 hc41.2.2.2.2 (Nat.le_of_ble_eq_true rfl) (Nat.le_of_ble_eq_true rfl) ?_
  refine zr_norm (zW tA b sh mm42) _ (by rw [emm42]; exact zW_c hs40) rfl ?_
  refine zr_aload_n F zd_XReader_readCamera_74 rfl ?_
  refine zr_bipushv (v := 44) F zd_XReader_readCamera_75 (by decide) ?_
  obtain ⟨le44, hs43, h⟩ := zoS_s h
  obtain ⟨p45, ep45, h⟩ := zoB_s h
  refine zr_callV0 F (k_XReader_need l D tA b sh _ ep45) zd_XReader_readCamera_77 (zW_o hs43 (by decide)) rfl zs_XReader_45 rfl zq_XReader_need rfl rfl ⟨(Nat.le_of_ble_eq_true rfl), (Nat.le_of_ble_eq_true rfl)⟩ (Nat.le_of_ble_eq_true rfl) ⟨(Nat.le_of_ble_eq_true rfl), (Nat.le_of_ble_eq_true rfl)⟩ ?_
  refine zr_aload_n F zd_XReader_readCamera_80 rfl ?_
  obtain ⟨le47, hs46, h⟩ := zoS_s h
  obtain ⟨a48, ea48, h⟩ := zoB_s h
  refine zr_get F 7 7 zd_XReader_readCamera_81 (zW_o hs46 (by decide)) rfl (by decide) zw_55 rfl (by rfl) ?_
  refine zr_tor ea48 ?_
  refine zr_pcn 84 rfl ?_
  obtain ⟨le50, hs49, h⟩ := zoS_s h
  obtain ⟨a51, ea51, h⟩ := zoB_s h
  refine zr_get F 8 6 zd_XReader_readCamera_84 (zW_o hs49 (by decide)) rfl (by decide) zw_303 rfl (by rfl) ?_
  refine zr_tor ea51 ?_
  refine zr_bipushv (v := 6) F zd_XReader_readCamera_87 (by decide) ?_
  refine zr_aload_n F zd_XReader_readCamera_89 rfl ?_
  refine zr_ldcSW F 12 "focus" zd_XReader_readCamera_90 (by decide +kernel) ?_
  refine zr_bipushv (v := 8) F zd_XReader_readCamera_93 (by decide) ?_
  refine zr_sipushv (v := 512) F zd_XReader_readCamera_95 (by decide) ?_
  obtain ⟨le53, hs52, h⟩ := zoS_s h
  obtain ⟨p54, ep54, h⟩ := zoB_s h
  refine zr_callV1 F (k_XReader_number l D tA b sh _ ep54) zd_XReader_readCamera_98 (zW_o hs52 (by decide)) rfl zs_XReader_138 rfl zq_XReader_number rfl rfl ⟨(Nat.le_of_ble_eq_true rfl), (Nat.le_of_ble_eq_true rfl)⟩ (Nat.le_of_ble_eq_true rfl) ⟨(Nat.le_of_ble_eq_true rfl), (Nat.le_of_ble_eq_true rfl)⟩ ?_
  obtain ⟨le56, hs55, h⟩ := zoS_s h
  obtain ⟨hi57, h⟩ := zoI_s h
  refine zr_iast F zd_XReader_readCamera_101 (zW_a0 hs55) hi57 ?_
  obtain ⟨mm58, emm58, h⟩ := zoL_s h
  refine zr_norm (zW tA b sh mm58) _ (by rw [emm58]; exact zW_s0 hs55) rfl ?_
  refine zr_pcn 102 rfl ?_
  refine zr_aload_n F zd_XReader_readCamera_102 rfl ?_
  refine zr_bipushv (v := 125) F zd_XReader_readCamera_103 (by decide) ?_
  obtain ⟨le60, hs59, h⟩ := zoS_s h
  obtain ⟨p61, ep61, h⟩ := zoB_s h
  refine zr_callV0 F (k_XReader_need l D tA b sh _ ep61) zd_XReader_readCamera_105 (zW_o hs59 (by decide)) rfl zs_XReader_45 rfl zq_XReader_need rfl rfl ⟨(Nat.le_of_ble_eq_true rfl), (Nat.le_of_ble_eq_true rfl)⟩ (Nat.le_of_ble_eq_true rfl) ⟨(Nat.le_of_ble_eq_true rfl), (Nat.le_of_ble_eq_true rfl)⟩ ?_
  obtain rfl := Option.some.inj h
  exact zr_vret F hr zd_XReader_readCamera_108 (Nat.le_of_ble_eq_true rfl) (Nat.le_of_ble_eq_true rfl) ⟨rfl, rfl, rfl⟩
def T_XReader_readCamera (sh : zSh) (mm : zMem) (o : Nat) : Option zMem := zoS (sh o) 7 (fun le2 => zoX (F_XReader_need sh mm o 123) (T_XReader_need sh mm o 123) (fun p3 => zoS (sh o) 7 (fun le5 => zoX (F_XReader_numbers sh p3 o 10 3 3 (-4194304) 4194304 0) (T_XReader_numbers sh p3 o 10 3 3 (-4194304) 4194304 0) (fun p6 => zoS (sh o) 7 (fun le8 => Option.bind ((p6.2).2.2 o 2) (fun a9 => zoS (sh o) 7 (fun le11 => Option.bind ((p6.2).2.2 o 7) (fun a12 => zoS (sh a12) 8 (fun le14 => Option.bind ((p6.2).2.2 a12 6) (fun a15 => zoS (sh a9) 100 (fun le16 => zoS (sh a15) 100 (fun le18 => if ¬ (0 : Int32) < 0 ∧ ¬ (0 : Int32) < 0 ∧ ¬ (3 : Int32) < 0 ∧ (0 : Int32).toNatClampNeg + (3 : Int32).toNatClampNeg ≤ le16 ∧ (0 : Int32).toNatClampNeg + (3 : Int32).toNatClampNeg ≤ le18 then zoL (mC (p6.2) a9 a15 (0 : Int32).toNatClampNeg (0 : Int32).toNatClampNeg (3 : Int32).toNatClampNeg) (fun mm21 => zoS (sh o) 7 (fun le23 => zoX (F_XReader_need sh mm21 o 44) (T_XReader_need sh mm21 o 44) (fun p24 => zoS (sh o) 7 (fun le26 => zoX (F_XReader_numbers sh p24 o 11 3 3 (-1048576) 1048576 0) (T_XReader_numbers sh p24 o 11 3 3 (-1048576) 1048576 0) (fun p27 => zoS (sh o) 7 (fun le29 => Option.bind ((p27.2).2.2 o 2) (fun a30 => zoS (sh o) 7 (fun le32 => Option.bind ((p27.2).2.2 o 7) (fun a33 => zoS (sh a33) 8 (fun le35 => Option.bind ((p27.2).2.2 a33 6) (fun a36 => zoS (sh a30) 100 (fun le37 => zoS (sh a36) 100 (fun le39 => if ¬ (0 : Int32) < 0 ∧ ¬ (3 : Int32) < 0 ∧ ¬ (3 : Int32) < 0 ∧ (0 : Int32).toNatClampNeg + (3 : Int32).toNatClampNeg ≤ le37 ∧ (3 : Int32).toNatClampNeg + (3 : Int32).toNatClampNeg ≤ le39 then zoL (mC (p27.2) a30 a36 (0 : Int32).toNatClampNeg (3 : Int32).toNatClampNeg (3 : Int32).toNatClampNeg) (fun mm42 => zoS (sh o) 7 (fun le44 => zoX (F_XReader_need sh mm42 o 44) (T_XReader_need sh mm42 o 44) (fun p45 => zoS (sh o) 7 (fun le47 => Option.bind (p45.2.2 o 7) (fun a48 => zoS (sh a48) 8 (fun le50 => Option.bind (p45.2.2 a48 6) (fun a51 => zoS (sh o) 7 (fun le53 => zoX (F_XReader_number sh p45 o 12 8 512) (T_XReader_number sh p45 o 12 8 512) (fun p54 => zoS (sh a51) 100 (fun le56 => if (6 : Int32) < 0 ∨ le56 ≤ (6 : Int32).toNatClampNeg then none else zoL (mI (p54.2) a51 (6 : Int32).toNatClampNeg (p54.1)) (fun mm58 => zoS (sh o) 7 (fun le60 => zoX (F_XReader_need sh mm58 o 125) (T_XReader_need sh mm58 o 125) (fun p61 => none))))))))))))) else none))))))))))))) else none))))))))))))
set_option maxHeartbeats 4000000 in
set_option maxRecDepth 100000 in
theorem kT_XReader_readCamera (l : Launch) (D : va_G) (tA : Nat → ClassId) (b : Nat) (sh : zSh) (n : Nat) (hl : l.stackTraces = false) {mm : zMem} {o : Nat} {r : zMem} (h : T_XReader_readCamera sh mm o = some r) : zMT l D tA b zy_XReader_readCamera zb_XReader_readCamera 1 none 9 166 1 6 [.ref (b + o)] (zW tA b sh mm) n "java/lang/IllegalArgumentException" (zW tA b sh r) (n + 1) := by
  unfold T_XReader_readCamera at h
  refine zMT_of (own := "OrreryBox$Reader") (plainFor_of_name (by decide)) rfl (Nat.le_of_ble_eq_true rfl) (fun p e s m below meth c F hno hH => ?_)
  refine zr_aload_n F zd_XReader_readCamera_0 rfl ?_
  refine zr_bipushv (v := 123) F zd_XReader_readCamera_1 (by decide) ?_
  obtain ⟨le2, hs1, h⟩ := zoS_s h
  cases ep3 : F_XReader_need sh mm o 123 with
  | none =>
    rw [ep3] at h
    dsimp only [zoX] at h
    exact zr_thrV F hno (kT_XReader_need l D tA b sh _ hl h) zd_XReader_readCamera_3 (zW_o hs1 (by decide)) rfl zs_XReader_45 rfl zq_XReader_need rfl rfl ⟨(Nat.le_of_ble_eq_true rfl), (Nat.le_of_ble_eq_true rfl)⟩ (Nat.le_of_ble_eq_true rfl) ⟨(Nat.le_of_ble_eq_true rfl), (Nat.le_of_ble_eq_true rfl)⟩ ⟨(Nat.le_of_ble_eq_true rfl), (Nat.le_of_ble_eq_true rfl)⟩
  | some p3 =>
    rw [ep3] at h
    dsimp only [zoX] at h
    refine zr_callV0 F (k_XReader_need l D tA b sh _ ep3) zd_XReader_readCamera_3 (zW_o hs1 (by decide)) rfl zs_XReader_45 rfl zq_XReader_need rfl rfl ⟨(Nat.le_of_ble_eq_true rfl), (Nat.le_of_ble_eq_true rfl)⟩ (Nat.le_of_ble_eq_true rfl) ⟨(Nat.le_of_ble_eq_true rfl), (Nat.le_of_ble_eq_true rfl)⟩ ?_
    refine zr_aload_n F zd_XReader_readCamera_6 rfl ?_
    refine zr_ldcS F 10 "move" zd_XReader_readCamera_7 (by decide +kernel) ?_
    refine zr_iconstv (v := 3) F zd_XReader_readCamera_9 (by decide) ?_
    refine zr_iconstv (v := 3) F zd_XReader_readCamera_10 (by decide) ?_
    refine zr_pcn 11 rfl ?_
    refine zr_ldc F zd_XReader_readCamera_11 zw_1185 ?_
    refine zr_ldc F zd_XReader_readCamera_13 zw_1186 ?_
    refine zr_iconstv (v := 0) F zd_XReader_readCamera_15 (by decide) ?_
    obtain ⟨le5, hs4, h⟩ := zoS_s h
    cases ep6 : F_XReader_numbers sh p3 o 10 3 3 (-4194304) 4194304 0 with
    | none =>
      rw [ep6] at h
      dsimp only [zoX] at h
      exact zr_thrV F hno (kT_XReader_numbers l D tA b sh _ hl h) zd_XReader_readCamera_16 (zW_o hs4 (by decide)) rfl zs_XReader_160 rfl zq_XReader_numbers rfl rfl ⟨(Nat.le_of_ble_eq_true rfl), (Nat.le_of_ble_eq_true rfl)⟩ (Nat.le_of_ble_eq_true rfl) ⟨(Nat.le_of_ble_eq_true rfl), (Nat.le_of_ble_eq_true rfl)⟩ ⟨(Nat.le_of_ble_eq_true rfl), (Nat.le_of_ble_eq_true rfl)⟩
    | some p6 =>
      rw [ep6] at h
      dsimp only [zoX] at h
      refine zr_callV1 F (k_XReader_numbers l D tA b sh _ ep6) zd_XReader_readCamera_16 (zW_o hs4 (by decide)) rfl zs_XReader_160 rfl zq_XReader_numbers rfl rfl ⟨(Nat.le_of_ble_eq_true rfl), (Nat.le_of_ble_eq_true rfl)⟩ (Nat.le_of_ble_eq_true rfl) ⟨(Nat.le_of_ble_eq_true rfl), (Nat.le_of_ble_eq_true rfl)⟩ ?_
      refine zr_pop F zd_XReader_readCamera_19 rfl ?_
      refine zr_aload_n F zd_XReader_readCamera_20 rfl ?_
      obtain ⟨le8, hs7, h⟩ := zoS_s h
      obtain ⟨a9, ea9, h⟩ := zoB_s h
      refine zr_get F 7 2 zd_XReader_readCamera_21 (zW_o hs7 (by decide)) rfl (by decide) zw_50 rfl (by rfl) ?_
      refine zr_tor ea9 ?_
      refine zr_iconstv (v := 0) F zd_XReader_readCamera_24 (by decide) ?_
      refine zr_pcn 25 rfl ?_
      refine zr_aload_n F zd_XReader_readCamera_25 rfl ?_
      obtain ⟨le11, hs10, h⟩ := zoS_s h
      obtain ⟨a12, ea12, h⟩ := zoB_s h
      refine zr_get F 7 7 zd_XReader_readCamera_26 (zW_o hs10 (by decide)) rfl (by decide) zw_55 rfl (by rfl) ?_
      refine zr_tor ea12 ?_
      obtain ⟨le14, hs13, h⟩ := zoS_s h
      obtain ⟨a15, ea15, h⟩ := zoB_s h
      refine zr_get F 8 6 zd_XReader_readCamera_29 (zW_o hs13 (by decide)) rfl (by decide) zw_303 rfl (by rfl) ?_
      refine zr_tor ea15 ?_
      refine zr_iconstv (v := 0) F zd_XReader_readCamera_32 (by decide) ?_
      refine zr_iconstv (v := 3) F zd_XReader_readCamera_33 (by decide) ?_
      obtain ⟨le16, hs17, h⟩ := zoS_s h
      obtain ⟨le18, hs19, h⟩ := zoS_s h
      obtain ⟨hc20, h⟩ := zoT_s h
      obtain ⟨mm21, emm21, h⟩ := zoL_s h
      refine zr_copy F zd_XReader_readCamera_34 zw_1202 zw_724 zw_723 zw_26 (zW_a0 hs17) (zW_a0 hs19) hc20.1 hc20.2.1 hc20.2.2.1 hc20.2.2.2.1 hc20.2.2.2.2 (Nat.le_of_ble_eq_true rfl) (Nat.le_of_ble_eq_true rfl) ?_
      refine zr_norm (zW tA b sh mm21) _ (by rw [emm21]; exact zW_c hs19) rfl ?_
      refine zr_aload_n F zd_XReader_readCamera_37 rfl ?_
      refine zr_bipushv (v := 44) F zd_XReader_readCamera_38 (by decide) ?_
      refine zr_pcn 40 rfl ?_
      obtain ⟨le23, hs22, h⟩ := zoS_s h
      cases ep24 : F_XReader_need sh mm21 o 44 with
      | none =>
        rw [ep24] at h
        dsimp only [zoX] at h
        exact zr_thrV F hno (kT_XReader_need l D tA b sh _ hl h) zd_XReader_readCamera_40 (zW_o hs22 (by decide)) rfl zs_XReader_45 rfl zq_XReader_need rfl rfl ⟨(Nat.le_of_ble_eq_true rfl), (Nat.le_of_ble_eq_true rfl)⟩ (Nat.le_of_ble_eq_true rfl) ⟨(Nat.le_of_ble_eq_true rfl), (Nat.le_of_ble_eq_true rfl)⟩ ⟨(Nat.le_of_ble_eq_true rfl), (Nat.le_of_ble_eq_true rfl)⟩
      | some p24 =>
        rw [ep24] at h
        dsimp only [zoX] at h
        refine zr_callV0 F (k_XReader_need l D tA b sh _ ep24) zd_XReader_readCamera_40 (zW_o hs22 (by decide)) rfl zs_XReader_45 rfl zq_XReader_need rfl rfl ⟨(Nat.le_of_ble_eq_true rfl), (Nat.le_of_ble_eq_true rfl)⟩ (Nat.le_of_ble_eq_true rfl) ⟨(Nat.le_of_ble_eq_true rfl), (Nat.le_of_ble_eq_true rfl)⟩ ?_
        refine zr_aload_n F zd_XReader_readCamera_43 rfl ?_
        refine zr_ldcS F 11 "turn" zd_XReader_readCamera_44 (by decide +kernel) ?_
        refine zr_iconstv (v := 3) F zd_XReader_readCamera_46 (by decide) ?_
        refine zr_iconstv (v := 3) F zd_XReader_readCamera_47 (by decide) ?_
        refine zr_ldc F zd_XReader_readCamera_48 zw_1204 ?_
        refine zr_ldc F zd_XReader_readCamera_50 zw_1205 ?_
        refine zr_iconstv (v := 0) F zd_XReader_readCamera_52 (by decide) ?_
        refine zr_pcn 53 rfl ?_
        obtain ⟨le26, hs25, h⟩ := zoS_s h
        cases ep27 : F_XReader_numbers sh p24 o 11 3 3 (-1048576) 1048576 0 with
        | none =>
          rw [ep27] at h
          dsimp only [zoX] at h
          exact zr_thrV F hno (kT_XReader_numbers l D tA b sh _ hl h) zd_XReader_readCamera_53 (zW_o hs25 (by decide)) rfl zs_XReader_160 rfl zq_XReader_numbers rfl rfl ⟨(Nat.le_of_ble_eq_true rfl), (Nat.le_of_ble_eq_true rfl)⟩ (Nat.le_of_ble_eq_true rfl) ⟨(Nat.le_of_ble_eq_true rfl), (Nat.le_of_ble_eq_true rfl)⟩ ⟨(Nat.le_of_ble_eq_true rfl), (Nat.le_of_ble_eq_true rfl)⟩
        | some p27 =>
          rw [ep27] at h
          dsimp only [zoX] at h
          refine zr_callV1 F (k_XReader_numbers l D tA b sh _ ep27) zd_XReader_readCamera_53 (zW_o hs25 (by decide)) rfl zs_XReader_160 rfl zq_XReader_numbers rfl rfl ⟨(Nat.le_of_ble_eq_true rfl), (Nat.le_of_ble_eq_true rfl)⟩ (Nat.le_of_ble_eq_true rfl) ⟨(Nat.le_of_ble_eq_true rfl), (Nat.le_of_ble_eq_true rfl)⟩ ?_
          refine zr_pop F zd_XReader_readCamera_56 rfl ?_
          refine zr_aload_n F zd_XReader_readCamera_57 rfl ?_
          obtain ⟨le29, hs28, h⟩ := zoS_s h
          obtain ⟨a30, ea30, h⟩ := zoB_s h
          refine zr_get F 7 2 zd_XReader_readCamera_58 (zW_o hs28 (by decide)) rfl (by decide) zw_50 rfl (by rfl) ?_
          refine zr_tor ea30 ?_
          refine zr_iconstv (v := 0) F zd_XReader_readCamera_61 (by decide) ?_
          refine zr_aload_n F zd_XReader_readCamera_62 rfl ?_
          obtain ⟨le32, hs31, h⟩ := zoS_s h
          obtain ⟨a33, ea33, h⟩ := zoB_s h
          refine zr_get F 7 7 zd_XReader_readCamera_63 (zW_o hs31 (by decide)) rfl (by decide) zw_55 rfl (by rfl) ?_
          refine zr_tor ea33 ?_
          obtain ⟨le35, hs34, h⟩ := zoS_s h
          obtain ⟨a36, ea36, h⟩ := zoB_s h
          refine zr_get F 8 6 zd_XReader_readCamera_66 (zW_o hs34 (by decide)) rfl (by decide) zw_303 rfl (by rfl) ?_
          refine zr_tor ea36 ?_
          refine zr_pcn 69 rfl ?_
          refine zr_iconstv (v := 3) F zd_XReader_readCamera_69 (by decide) ?_
          refine zr_iconstv (v := 3) F zd_XReader_readCamera_70 (by decide) ?_
          obtain ⟨le37, hs38, h⟩ := zoS_s h
          obtain ⟨le39, hs40, h⟩ := zoS_s h
          obtain ⟨hc41, h⟩ := zoT_s h
          obtain ⟨mm42, emm42, h⟩ := zoL_s h
          refine zr_copy F zd_XReader_readCamera_71 zw_1202 zw_724 zw_723 zw_26 (zW_a0 hs38) (zW_a0 hs40) hc41.1 hc41.2.1 hc41.2.2.1 hc41.2.2.2.1 hc41.2.2.2.2 (Nat.le_of_ble_eq_true rfl) (Nat.le_of_ble_eq_true rfl) ?_
          refine zr_norm (zW tA b sh mm42) _ (by rw [emm42]; exact zW_c hs40) rfl ?_
          refine zr_aload_n F zd_XReader_readCamera_74 rfl ?_
          refine zr_bipushv (v := 44) F zd_XReader_readCamera_75 (by decide) ?_
          obtain ⟨le44, hs43, h⟩ := zoS_s h
          cases ep45 : F_XReader_need sh mm42 o 44 with
          | none =>
            rw [ep45] at h
            dsimp only [zoX] at h
            exact zr_thrV F hno (kT_XReader_need l D tA b sh _ hl h) zd_XReader_readCamera_77 (zW_o hs43 (by decide)) rfl zs_XReader_45 rfl zq_XReader_need rfl rfl ⟨(Nat.le_of_ble_eq_true rfl), (Nat.le_of_ble_eq_true rfl)⟩ (Nat.le_of_ble_eq_true rfl) ⟨(Nat.le_of_ble_eq_true rfl), (Nat.le_of_ble_eq_true rfl)⟩ ⟨(Nat.le_of_ble_eq_true rfl), (Nat.le_of_ble_eq_true rfl)⟩
          | some p45 =>
            rw [ep45] at h
            dsimp only [zoX] at h
            refine zr_callV0 F (k_XReader_need l D tA b sh _ ep45) zd_XReader_readCamera_77 (zW_o hs43 (by decide)) rfl zs_XReader_45 rfl zq_XReader_need rfl rfl ⟨(Nat.le_of_ble_eq_true rfl), (Nat.le_of_ble_eq_true rfl)⟩ (Nat.le_of_ble_eq_true rfl) ⟨(Nat.le_of_ble_eq_true rfl), (Nat.le_of_ble_eq_true rfl)⟩ ?_
            refine zr_aload_n F zd_XReader_readCamera_80 rfl ?_
            obtain ⟨le47, hs46, h⟩ := zoS_s h
            obtain ⟨a48, ea48, h⟩ := zoB_s h
            refine zr_get F 7 7 zd_XReader_readCamera_81 (zW_o hs46 (by decide)) rfl (by decide) zw_55 rfl (by rfl) ?_
            refine zr_tor ea48 ?_
            refine zr_pcn 84 rfl ?_
            obtain ⟨le50, hs49, h⟩ := zoS_s h
            obtain ⟨a51, ea51, h⟩ := zoB_s h
            refine zr_get F 8 6 zd_XReader_readCamera_84 (zW_o hs49 (by decide)) rfl (by decide) zw_303 rfl (by rfl) ?_
            refine zr_tor ea51 ?_
            refine zr_bipushv (v := 6) F zd_XReader_readCamera_87 (by decide) ?_
            refine zr_aload_n F zd_XReader_readCamera_89 rfl ?_
            refine zr_ldcSW F 12 "focus" zd_XReader_readCamera_90 (by decide +kernel) ?_
            refine zr_bipushv (v := 8) F zd_XReader_readCamera_93 (by decide) ?_
            refine zr_sipushv (v := 512) F zd_XReader_readCamera_95 (by decide) ?_
            obtain ⟨le53, hs52, h⟩ := zoS_s h
            cases ep54 : F_XReader_number sh p45 o 12 8 512 with
            | none =>
              rw [ep54] at h
              dsimp only [zoX] at h
              exact zr_thrV F hno (kT_XReader_number l D tA b sh _ hl h) zd_XReader_readCamera_98 (zW_o hs52 (by decide)) rfl zs_XReader_138 rfl zq_XReader_number rfl rfl ⟨(Nat.le_of_ble_eq_true rfl), (Nat.le_of_ble_eq_true rfl)⟩ (Nat.le_of_ble_eq_true rfl) ⟨(Nat.le_of_ble_eq_true rfl), (Nat.le_of_ble_eq_true rfl)⟩ ⟨(Nat.le_of_ble_eq_true rfl), (Nat.le_of_ble_eq_true rfl)⟩
            | some p54 =>
              rw [ep54] at h
              dsimp only [zoX] at h
              refine zr_callV1 F (k_XReader_number l D tA b sh _ ep54) zd_XReader_readCamera_98 (zW_o hs52 (by decide)) rfl zs_XReader_138 rfl zq_XReader_number rfl rfl ⟨(Nat.le_of_ble_eq_true rfl), (Nat.le_of_ble_eq_true rfl)⟩ (Nat.le_of_ble_eq_true rfl) ⟨(Nat.le_of_ble_eq_true rfl), (Nat.le_of_ble_eq_true rfl)⟩ ?_
              obtain ⟨le56, hs55, h⟩ := zoS_s h
              obtain ⟨hi57, h⟩ := zoI_s h
              refine zr_iast F zd_XReader_readCamera_101 (zW_a0 hs55) hi57 ?_
              obtain ⟨mm58, emm58, h⟩ := zoL_s h
              refine zr_norm (zW tA b sh mm58) _ (by rw [emm58]; exact zW_s0 hs55) rfl ?_
              refine zr_pcn 102 rfl ?_
              refine zr_aload_n F zd_XReader_readCamera_102 rfl ?_
              refine zr_bipushv (v := 125) F zd_XReader_readCamera_103 (by decide) ?_
              obtain ⟨le60, hs59, h⟩ := zoS_s h
              cases ep61 : F_XReader_need sh mm58 o 125 with
              | none =>
                rw [ep61] at h
                dsimp only [zoX] at h
                exact zr_thrV F hno (kT_XReader_need l D tA b sh _ hl h) zd_XReader_readCamera_105 (zW_o hs59 (by decide)) rfl zs_XReader_45 rfl zq_XReader_need rfl rfl ⟨(Nat.le_of_ble_eq_true rfl), (Nat.le_of_ble_eq_true rfl)⟩ (Nat.le_of_ble_eq_true rfl) ⟨(Nat.le_of_ble_eq_true rfl), (Nat.le_of_ble_eq_true rfl)⟩ ⟨(Nat.le_of_ble_eq_true rfl), (Nat.le_of_ble_eq_true rfl)⟩
              | some p61 =>
                rw [ep61] at h
                dsimp only [zoX] at h
                refine zr_callV0 F (k_XReader_need l D tA b sh _ ep61) zd_XReader_readCamera_105 (zW_o hs59 (by decide)) rfl zs_XReader_45 rfl zq_XReader_need rfl rfl ⟨(Nat.le_of_ble_eq_true rfl), (Nat.le_of_ble_eq_true rfl)⟩ (Nat.le_of_ble_eq_true rfl) ⟨(Nat.le_of_ble_eq_true rfl), (Nat.le_of_ble_eq_true rfl)⟩ ?_
                cases h
abbrev zb_XReader_readLight : ByteArray := prog_8_method_11_code
def zy_XReader_readLight : MethodName := ⟨"OrreryBox$Reader", "readLight", "()V"⟩
theorem zc_XReader_readLight : Cond.code zy_XReader_readLight zb_XReader_readLight 1 none ∈ gw := gw_t 1214 (by decide +kernel) rfl
theorem zq_XReader_readLight : zy_XReader_readLight.cls ≠ "java/lang/invoke/MethodHandle" ∧ zy_XReader_readLight.cls ≠ "java/lang/invoke/VarHandle" ∧ (parseMethodDescriptor zy_XReader_readLight.desc).map (fun d => d.parameters.length) = some 0 := by decide +kernel
theorem zd_XReader_readLight_0 : decode zb_XReader_readLight 0 = .ok (.aload_n 0, 1) := by decide +kernel
theorem zd_XReader_readLight_1 : decode zb_XReader_readLight 1 = .ok (.bipush 123, 2) := by decide +kernel
theorem zd_XReader_readLight_3 : decode zb_XReader_readLight 3 = .ok (.invokevirtual 45, 3) := by decide +kernel
theorem zd_XReader_readLight_6 : decode zb_XReader_readLight 6 = .ok (.aload_n 0, 1) := by decide +kernel
theorem zd_XReader_readLight_7 : decode zb_XReader_readLight 7 = .ok (.ldc_w 271, 3) := by decide +kernel
theorem zd_XReader_readLight_10 : decode zb_XReader_readLight 10 = .ok (.iconst 3, 1) := by decide +kernel
theorem zd_XReader_readLight_11 : decode zb_XReader_readLight 11 = .ok (.iconst 3, 1) := by decide +kernel
theorem zd_XReader_readLight_12 : decode zb_XReader_readLight 12 = .ok (.ldc 196, 2) := by decide +kernel
theorem zd_XReader_readLight_14 : decode zb_XReader_readLight 14 = .ok (.ldc 197, 2) := by decide +kernel
theorem zd_XReader_readLight_16 : decode zb_XReader_readLight 16 = .ok (.iconst 0, 1) := by decide +kernel
theorem zd_XReader_readLight_17 : decode zb_XReader_readLight 17 = .ok (.invokevirtual 160, 3) := by decide +kernel
theorem zd_XReader_readLight_20 : decode zb_XReader_readLight 20 = .ok (.pop, 1) := by decide +kernel
theorem zd_XReader_readLight_21 : decode zb_XReader_readLight 21 = .ok (.aload_n 0, 1) := by decide +kernel
theorem zd_XReader_readLight_22 : decode zb_XReader_readLight 22 = .ok (.getfield 9, 3) := by decide +kernel
theorem zd_XReader_readLight_25 : decode zb_XReader_readLight 25 = .ok (.iconst 0, 1) := by decide +kernel
theorem zd_XReader_readLight_26 : decode zb_XReader_readLight 26 = .ok (.aload_n 0, 1) := by decide +kernel
theorem zd_XReader_readLight_27 : decode zb_XReader_readLight 27 = .ok (.getfield 23, 3) := by decide +kernel
theorem zd_XReader_readLight_30 : decode zb_XReader_readLight 30 = .ok (.getfield 273, 3) := by decide +kernel
theorem zd_XReader_readLight_33 : decode zb_XReader_readLight 33 = .ok (.iconst 0, 1) := by decide +kernel
theorem zd_XReader_readLight_34 : decode zb_XReader_readLight 34 = .ok (.iconst 3, 1) := by decide +kernel
theorem zd_XReader_readLight_35 : decode zb_XReader_readLight 35 = .ok (.invokestatic 169, 3) := by decide +kernel
theorem zd_XReader_readLight_38 : decode zb_XReader_readLight 38 = .ok (.aload_n 0, 1) := by decide +kernel
theorem zd_XReader_readLight_39 : decode zb_XReader_readLight 39 = .ok (.bipush 44, 2) := by decide +kernel
theorem zd_XReader_readLight_41 : decode zb_XReader_readLight 41 = .ok (.invokevirtual 45, 3) := by decide +kernel
theorem zd_XReader_readLight_44 : decode zb_XReader_readLight 44 = .ok (.aload_n 0, 1) := by decide +kernel
theorem zd_XReader_readLight_45 : decode zb_XReader_readLight 45 = .ok (.getfield 23, 3) := by decide +kernel
theorem zd_XReader_readLight_48 : decode zb_XReader_readLight 48 = .ok (.getfield 273, 3) := by decide +kernel
theorem zd_XReader_readLight_51 : decode zb_XReader_readLight 51 = .ok (.iconst 3, 1) := by decide +kernel
theorem zd_XReader_readLight_52 : decode zb_XReader_readLight 52 = .ok (.aload_n 0, 1) := by decide +kernel
theorem zd_XReader_readLight_53 : decode zb_XReader_readLight 53 = .ok (.ldc_w 276, 3) := by decide +kernel
theorem zd_XReader_readLight_56 : decode zb_XReader_readLight 56 = .ok (.iconst 0, 1) := by decide +kernel
theorem zd_XReader_readLight_57 : decode zb_XReader_readLight 57 = .ok (.ldc 197, 2) := by decide +kernel
theorem zd_XReader_readLight_59 : decode zb_XReader_readLight 59 = .ok (.invokevirtual 138, 3) := by decide +kernel
theorem zd_XReader_readLight_62 : decode zb_XReader_readLight 62 = .ok (.iastore, 1) := by decide +kernel
theorem zd_XReader_readLight_63 : decode zb_XReader_readLight 63 = .ok (.aload_n 0, 1) := by decide +kernel
theorem zd_XReader_readLight_64 : decode zb_XReader_readLight 64 = .ok (.bipush 125, 2) := by decide +kernel
theorem zd_XReader_readLight_66 : decode zb_XReader_readLight 66 = .ok (.invokevirtual 45, 3) := by decide +kernel
theorem zd_XReader_readLight_69 : decode zb_XReader_readLight 69 = .ok (.return_, 1) := by decide +kernel
theorem zw_306 : (Jvm.Cond.fieldLink "OrreryBox$Reader" (273 : Nat) "OrreryBox$Scene" "lamp" "[I") ∈ gw := gw_t 306 (by decide +kernel) rfl
def F_XReader_readLight (sh : zSh) (mm : zMem) (o : Nat) : Option zMem := zoS (sh o) 7 (fun le2 => Option.bind (F_XReader_need sh mm o 123) (fun p3 => zoS (sh o) 7 (fun le5 => Option.bind (F_XReader_numbers sh p3 o 13 3 3 (-65536) 65536 0) (fun p6 => zoS (sh o) 7 (fun le8 => Option.bind ((p6.2).2.2 o 2) (fun a9 => zoS (sh o) 7 (fun le11 => Option.bind ((p6.2).2.2 o 7) (fun a12 => zoS (sh a12) 8 (fun le14 => Option.bind ((p6.2).2.2 a12 7) (fun a15 => zoS (sh a9) 100 (fun le16 => zoS (sh a15) 100 (fun le18 => if ¬ (0 : Int32) < 0 ∧ ¬ (0 : Int32) < 0 ∧ ¬ (3 : Int32) < 0 ∧ (0 : Int32).toNatClampNeg + (3 : Int32).toNatClampNeg ≤ le16 ∧ (0 : Int32).toNatClampNeg + (3 : Int32).toNatClampNeg ≤ le18 then zoL (mC (p6.2) a9 a15 (0 : Int32).toNatClampNeg (0 : Int32).toNatClampNeg (3 : Int32).toNatClampNeg) (fun mm21 => zoS (sh o) 7 (fun le23 => Option.bind (F_XReader_need sh mm21 o 44) (fun p24 => zoS (sh o) 7 (fun le26 => Option.bind (p24.2.2 o 7) (fun a27 => zoS (sh a27) 8 (fun le29 => Option.bind (p24.2.2 a27 7) (fun a30 => zoS (sh o) 7 (fun le32 => Option.bind (F_XReader_number sh p24 o 14 0 65536) (fun p33 => zoS (sh a30) 100 (fun le35 => if (3 : Int32) < 0 ∨ le35 ≤ (3 : Int32).toNatClampNeg then none else zoL (mI (p33.2) a30 (3 : Int32).toNatClampNeg (p33.1)) (fun mm37 => zoS (sh o) 7 (fun le39 => Option.bind (F_XReader_need sh mm37 o 125) (fun p40 => some p40))))))))))))) else none))))))))))))
set_option maxHeartbeats 4000000 in
set_option maxRecDepth 100000 in
theorem k_XReader_readLight (l : Launch) (D : va_G) (tA : Nat → ClassId) (b : Nat) (sh : zSh) (n : Nat) {mm : zMem} {o : Nat} {r : zMem} (h : F_XReader_readLight sh mm o = some r) : zM l D tA b zy_XReader_readLight zb_XReader_readLight 1 none 7 158 0 0 [.ref (b + o)] (zW tA b sh mm) n (zE none (zW tA b sh r) n) := by
  unfold F_XReader_readLight at h
  refine zM_of (own := "OrreryBox$Reader") (plainFor_of_name (by decide)) rfl (Nat.le_of_ble_eq_true rfl) (fun p e s m below meth c F hr hin hH => ?_)
  refine zr_aload_n F zd_XReader_readLight_0 rfl ?_
  refine zr_bipushv (v := 123) F zd_XReader_readLight_1 (by decide) ?_
  obtain ⟨le2, hs1, h⟩ := zoS_s h
  obtain ⟨p3, ep3, h⟩ := zoB_s h
  refine zr_callV0 F (k_XReader_need l D tA b sh _ ep3) zd_XReader_readLight_3 (zW_o hs1 (by decide)) rfl zs_XReader_45 rfl zq_XReader_need rfl rfl ⟨(Nat.le_of_ble_eq_true rfl), (Nat.le_of_ble_eq_true rfl)⟩ (Nat.le_of_ble_eq_true rfl) ⟨(Nat.le_of_ble_eq_true rfl), (Nat.le_of_ble_eq_true rfl)⟩ ?_
  refine zr_aload_n F zd_XReader_readLight_6 rfl ?_
  refine zr_ldcSW F 13 "toward" zd_XReader_readLight_7 (by decide +kernel) ?_
  refine zr_iconstv (v := 3) F zd_XReader_readLight_10 (by decide) ?_
  refine zr_iconstv (v := 3) F zd_XReader_readLight_11 (by decide) ?_
  refine zr_pcn 12 rfl ?_
  refine zr_ldc F zd_XReader_readLight_12 zw_1216 ?_
  refine zr_ldc F zd_XReader_readLight_14 zw_1217 ?_
  refine zr_iconstv (v := 0) F zd_XReader_readLight_16 (by decide) ?_
  obtain ⟨le5, hs4, h⟩ := zoS_s h
  obtain ⟨p6, ep6, h⟩ := zoB_s h
  refine zr_callV1 F (k_XReader_numbers l D tA b sh _ ep6) zd_XReader_readLight_17 (zW_o hs4 (by decide)) rfl zs_XReader_160 rfl zq_XReader_numbers rfl rfl ⟨(Nat.le_of_ble_eq_true rfl), (Nat.le_of_ble_eq_true rfl)⟩ (Nat.le_of_ble_eq_true rfl) ⟨(Nat.le_of_ble_eq_true rfl), (Nat.le_of_ble_eq_true rfl)⟩ ?_
  refine zr_pop F zd_XReader_readLight_20 rfl ?_
  refine zr_aload_n F zd_XReader_readLight_21 rfl ?_
  obtain ⟨le8, hs7, h⟩ := zoS_s h
  obtain ⟨a9, ea9, h⟩ := zoB_s h
  refine zr_get F 7 2 zd_XReader_readLight_22 (zW_o hs7 (by decide)) rfl (by decide) zw_50 rfl (by rfl) ?_
  refine zr_tor ea9 ?_
  refine zr_iconstv (v := 0) F zd_XReader_readLight_25 (by decide) ?_
  refine zr_pcn 26 rfl ?_
  refine zr_aload_n F zd_XReader_readLight_26 rfl ?_
  obtain ⟨le11, hs10, h⟩ := zoS_s h
  obtain ⟨a12, ea12, h⟩ := zoB_s h
  refine zr_get F 7 7 zd_XReader_readLight_27 (zW_o hs10 (by decide)) rfl (by decide) zw_55 rfl (by rfl) ?_
  refine zr_tor ea12 ?_
  obtain ⟨le14, hs13, h⟩ := zoS_s h
  obtain ⟨a15, ea15, h⟩ := zoB_s h
  refine zr_get F 8 7 zd_XReader_readLight_30 (zW_o hs13 (by decide)) rfl (by decide) zw_306 rfl (by rfl) ?_
  refine zr_tor ea15 ?_
  refine zr_iconstv (v := 0) F zd_XReader_readLight_33 (by decide) ?_
  refine zr_iconstv (v := 3) F zd_XReader_readLight_34 (by decide) ?_
  obtain ⟨le16, hs17, h⟩ := zoS_s h
  obtain ⟨le18, hs19, h⟩ := zoS_s h
  obtain ⟨hc20, h⟩ := zoT_s h
  obtain ⟨mm21, emm21, h⟩ := zoL_s h
  refine zr_copy F zd_XReader_readLight_35 zw_1202 zw_724 zw_723 zw_26 (zW_a0 hs17) (zW_a0 hs19) hc20.1 hc20.2.1 hc20.2.2.1 hc20.2.2.2.1 hc20.2.2.2.2 (Nat.le_of_ble_eq_true rfl) (Nat.le_of_ble_eq_true rfl) ?_
  refine zr_norm (zW tA b sh mm21) _ (by rw [emm21]; exact zW_c hs19) rfl ?_
  refine zr_aload_n F zd_XReader_readLight_38 rfl ?_
  refine zr_bipushv (v := 44) F zd_XReader_readLight_39 (by decide) ?_
  refine zr_pcn 41 rfl ?_
  obtain ⟨le23, hs22, h⟩ := zoS_s h
  obtain ⟨p24, ep24, h⟩ := zoB_s h
  refine zr_callV0 F (k_XReader_need l D tA b sh _ ep24) zd_XReader_readLight_41 (zW_o hs22 (by decide)) rfl zs_XReader_45 rfl zq_XReader_need rfl rfl ⟨(Nat.le_of_ble_eq_true rfl), (Nat.le_of_ble_eq_true rfl)⟩ (Nat.le_of_ble_eq_true rfl) ⟨(Nat.le_of_ble_eq_true rfl), (Nat.le_of_ble_eq_true rfl)⟩ ?_
  refine zr_aload_n F zd_XReader_readLight_44 rfl ?_
  obtain ⟨le26, hs25, h⟩ := zoS_s h
  obtain ⟨a27, ea27, h⟩ := zoB_s h
  refine zr_get F 7 7 zd_XReader_readLight_45 (zW_o hs25 (by decide)) rfl (by decide) zw_55 rfl (by rfl) ?_
  refine zr_tor ea27 ?_
  obtain ⟨le29, hs28, h⟩ := zoS_s h
  obtain ⟨a30, ea30, h⟩ := zoB_s h
  refine zr_get F 8 7 zd_XReader_readLight_48 (zW_o hs28 (by decide)) rfl (by decide) zw_306 rfl (by rfl) ?_
  refine zr_tor ea30 ?_
  refine zr_iconstv (v := 3) F zd_XReader_readLight_51 (by decide) ?_
  refine zr_aload_n F zd_XReader_readLight_52 rfl ?_
  refine zr_ldcSW F 14 "ambient" zd_XReader_readLight_53 (by decide +kernel) ?_
  refine zr_iconstv (v := 0) F zd_XReader_readLight_56 (by decide) ?_
  refine zr_pcn 57 rfl ?_
  refine zr_ldc F zd_XReader_readLight_57 zw_1217 ?_
  obtain ⟨le32, hs31, h⟩ := zoS_s h
  obtain ⟨p33, ep33, h⟩ := zoB_s h
  refine zr_callV1 F (k_XReader_number l D tA b sh _ ep33) zd_XReader_readLight_59 (zW_o hs31 (by decide)) rfl zs_XReader_138 rfl zq_XReader_number rfl rfl ⟨(Nat.le_of_ble_eq_true rfl), (Nat.le_of_ble_eq_true rfl)⟩ (Nat.le_of_ble_eq_true rfl) ⟨(Nat.le_of_ble_eq_true rfl), (Nat.le_of_ble_eq_true rfl)⟩ ?_
  obtain ⟨le35, hs34, h⟩ := zoS_s h
  obtain ⟨hi36, h⟩ := zoI_s h
  refine zr_iast F zd_XReader_readLight_62 (zW_a0 hs34) hi36 ?_
  obtain ⟨mm37, emm37, h⟩ := zoL_s h
  refine zr_norm (zW tA b sh mm37) _ (by rw [emm37]; exact zW_s0 hs34) rfl ?_
  refine zr_aload_n F zd_XReader_readLight_63 rfl ?_
  refine zr_bipushv (v := 125) F zd_XReader_readLight_64 (by decide) ?_
  obtain ⟨le39, hs38, h⟩ := zoS_s h
  obtain ⟨p40, ep40, h⟩ := zoB_s h
  refine zr_callV0 F (k_XReader_need l D tA b sh _ ep40) zd_XReader_readLight_66 (zW_o hs38 (by decide)) rfl zs_XReader_45 rfl zq_XReader_need rfl rfl ⟨(Nat.le_of_ble_eq_true rfl), (Nat.le_of_ble_eq_true rfl)⟩ (Nat.le_of_ble_eq_true rfl) ⟨(Nat.le_of_ble_eq_true rfl), (Nat.le_of_ble_eq_true rfl)⟩ ?_
  obtain rfl := Option.some.inj h
  exact zr_vret F hr zd_XReader_readLight_69 (Nat.le_of_ble_eq_true rfl) (Nat.le_of_ble_eq_true rfl) ⟨rfl, rfl, rfl⟩
def T_XReader_readLight (sh : zSh) (mm : zMem) (o : Nat) : Option zMem := zoS (sh o) 7 (fun le2 => zoX (F_XReader_need sh mm o 123) (T_XReader_need sh mm o 123) (fun p3 => zoS (sh o) 7 (fun le5 => zoX (F_XReader_numbers sh p3 o 13 3 3 (-65536) 65536 0) (T_XReader_numbers sh p3 o 13 3 3 (-65536) 65536 0) (fun p6 => zoS (sh o) 7 (fun le8 => Option.bind ((p6.2).2.2 o 2) (fun a9 => zoS (sh o) 7 (fun le11 => Option.bind ((p6.2).2.2 o 7) (fun a12 => zoS (sh a12) 8 (fun le14 => Option.bind ((p6.2).2.2 a12 7) (fun a15 => zoS (sh a9) 100 (fun le16 => zoS (sh a15) 100 (fun le18 => if ¬ (0 : Int32) < 0 ∧ ¬ (0 : Int32) < 0 ∧ ¬ (3 : Int32) < 0 ∧ (0 : Int32).toNatClampNeg + (3 : Int32).toNatClampNeg ≤ le16 ∧ (0 : Int32).toNatClampNeg + (3 : Int32).toNatClampNeg ≤ le18 then zoL (mC (p6.2) a9 a15 (0 : Int32).toNatClampNeg (0 : Int32).toNatClampNeg (3 : Int32).toNatClampNeg) (fun mm21 => zoS (sh o) 7 (fun le23 => zoX (F_XReader_need sh mm21 o 44) (T_XReader_need sh mm21 o 44) (fun p24 => zoS (sh o) 7 (fun le26 => Option.bind (p24.2.2 o 7) (fun a27 => zoS (sh a27) 8 (fun le29 => Option.bind (p24.2.2 a27 7) (fun a30 => zoS (sh o) 7 (fun le32 => zoX (F_XReader_number sh p24 o 14 0 65536) (T_XReader_number sh p24 o 14 0 65536) (fun p33 => zoS (sh a30) 100 (fun le35 => if (3 : Int32) < 0 ∨ le35 ≤ (3 : Int32).toNatClampNeg then none else zoL (mI (p33.2) a30 (3 : Int32).toNatClampNeg (p33.1)) (fun mm37 => zoS (sh o) 7 (fun le39 => zoX (F_XReader_need sh mm37 o 125) (T_XReader_need sh mm37 o 125) (fun p40 => none))))))))))))) else none))))))))))))
set_option maxHeartbeats 4000000 in
set_option maxRecDepth 100000 in
theorem kT_XReader_readLight (l : Launch) (D : va_G) (tA : Nat → ClassId) (b : Nat) (sh : zSh) (n : Nat) (hl : l.stackTraces = false) {mm : zMem} {o : Nat} {r : zMem} (h : T_XReader_readLight sh mm o = some r) : zMT l D tA b zy_XReader_readLight zb_XReader_readLight 1 none 9 166 1 6 [.ref (b + o)] (zW tA b sh mm) n "java/lang/IllegalArgumentException" (zW tA b sh r) (n + 1) := by
  unfold T_XReader_readLight at h
  refine zMT_of (own := "OrreryBox$Reader") (plainFor_of_name (by decide)) rfl (Nat.le_of_ble_eq_true rfl) (fun p e s m below meth c F hno hH => ?_)
  refine zr_aload_n F zd_XReader_readLight_0 rfl ?_
  refine zr_bipushv (v := 123) F zd_XReader_readLight_1 (by decide) ?_
  obtain ⟨le2, hs1, h⟩ := zoS_s h
  cases ep3 : F_XReader_need sh mm o 123 with
  | none =>
    rw [ep3] at h
    dsimp only [zoX] at h
    exact zr_thrV F hno (kT_XReader_need l D tA b sh _ hl h) zd_XReader_readLight_3 (zW_o hs1 (by decide)) rfl zs_XReader_45 rfl zq_XReader_need rfl rfl ⟨(Nat.le_of_ble_eq_true rfl), (Nat.le_of_ble_eq_true rfl)⟩ (Nat.le_of_ble_eq_true rfl) ⟨(Nat.le_of_ble_eq_true rfl), (Nat.le_of_ble_eq_true rfl)⟩ ⟨(Nat.le_of_ble_eq_true rfl), (Nat.le_of_ble_eq_true rfl)⟩
  | some p3 =>
    rw [ep3] at h
    dsimp only [zoX] at h
    refine zr_callV0 F (k_XReader_need l D tA b sh _ ep3) zd_XReader_readLight_3 (zW_o hs1 (by decide)) rfl zs_XReader_45 rfl zq_XReader_need rfl rfl ⟨(Nat.le_of_ble_eq_true rfl), (Nat.le_of_ble_eq_true rfl)⟩ (Nat.le_of_ble_eq_true rfl) ⟨(Nat.le_of_ble_eq_true rfl), (Nat.le_of_ble_eq_true rfl)⟩ ?_
    refine zr_aload_n F zd_XReader_readLight_6 rfl ?_
    refine zr_ldcSW F 13 "toward" zd_XReader_readLight_7 (by decide +kernel) ?_
    refine zr_iconstv (v := 3) F zd_XReader_readLight_10 (by decide) ?_
    refine zr_iconstv (v := 3) F zd_XReader_readLight_11 (by decide) ?_
    refine zr_pcn 12 rfl ?_
    refine zr_ldc F zd_XReader_readLight_12 zw_1216 ?_
    refine zr_ldc F zd_XReader_readLight_14 zw_1217 ?_
    refine zr_iconstv (v := 0) F zd_XReader_readLight_16 (by decide) ?_
    obtain ⟨le5, hs4, h⟩ := zoS_s h
    cases ep6 : F_XReader_numbers sh p3 o 13 3 3 (-65536) 65536 0 with
    | none =>
      rw [ep6] at h
      dsimp only [zoX] at h
      exact zr_thrV F hno (kT_XReader_numbers l D tA b sh _ hl h) zd_XReader_readLight_17 (zW_o hs4 (by decide)) rfl zs_XReader_160 rfl zq_XReader_numbers rfl rfl ⟨(Nat.le_of_ble_eq_true rfl), (Nat.le_of_ble_eq_true rfl)⟩ (Nat.le_of_ble_eq_true rfl) ⟨(Nat.le_of_ble_eq_true rfl), (Nat.le_of_ble_eq_true rfl)⟩ ⟨(Nat.le_of_ble_eq_true rfl), (Nat.le_of_ble_eq_true rfl)⟩
    | some p6 =>
      rw [ep6] at h
      dsimp only [zoX] at h
      refine zr_callV1 F (k_XReader_numbers l D tA b sh _ ep6) zd_XReader_readLight_17 (zW_o hs4 (by decide)) rfl zs_XReader_160 rfl zq_XReader_numbers rfl rfl ⟨(Nat.le_of_ble_eq_true rfl), (Nat.le_of_ble_eq_true rfl)⟩ (Nat.le_of_ble_eq_true rfl) ⟨(Nat.le_of_ble_eq_true rfl), (Nat.le_of_ble_eq_true rfl)⟩ ?_
      refine zr_pop F zd_XReader_readLight_20 rfl ?_
      refine zr_aload_n F zd_XReader_readLight_21 rfl ?_
      obtain ⟨le8, hs7, h⟩ := zoS_s h
      obtain ⟨a9, ea9, h⟩ := zoB_s h
      refine zr_get F 7 2 zd_XReader_readLight_22 (zW_o hs7 (by decide)) rfl (by decide) zw_50 rfl (by rfl) ?_
      refine zr_tor ea9 ?_
      refine zr_iconstv (v := 0) F zd_XReader_readLight_25 (by decide) ?_
      refine zr_pcn 26 rfl ?_
      refine zr_aload_n F zd_XReader_readLight_26 rfl ?_
      obtain ⟨le11, hs10, h⟩ := zoS_s h
      obtain ⟨a12, ea12, h⟩ := zoB_s h
      refine zr_get F 7 7 zd_XReader_readLight_27 (zW_o hs10 (by decide)) rfl (by decide) zw_55 rfl (by rfl) ?_
      refine zr_tor ea12 ?_
      obtain ⟨le14, hs13, h⟩ := zoS_s h
      obtain ⟨a15, ea15, h⟩ := zoB_s h
      refine zr_get F 8 7 zd_XReader_readLight_30 (zW_o hs13 (by decide)) rfl (by decide) zw_306 rfl (by rfl) ?_
      refine zr_tor ea15 ?_
      refine zr_iconstv (v := 0) F zd_XReader_readLight_33 (by decide) ?_
      refine zr_iconstv (v := 3) F zd_XReader_readLight_34 (by decide) ?_
      obtain ⟨le16, hs17, h⟩ := zoS_s h
      obtain ⟨le18, hs19, h⟩ := zoS_s h
      obtain ⟨hc20, h⟩ := zoT_s h
      obtain ⟨mm21, emm21, h⟩ := zoL_s h
      refine zr_copy F zd_XReader_readLight_35 zw_1202 zw_724 zw_723 zw_26 (zW_a0 hs17) (zW_a0 hs19) hc20.1 hc20.2.1 hc20.2.2.1 hc20.2.2.2.1 hc20.2.2.2.2 (Nat.le_of_ble_eq_true rfl) (Nat.le_of_ble_eq_true rfl) ?_
      refine zr_norm (zW tA b sh mm21) _ (by rw [emm21]; exact zW_c hs19) rfl ?_
      refine zr_aload_n F zd_XReader_readLight_38 rfl ?_
      refine zr_bipushv (v := 44) F zd_XReader_readLight_39 (by decide) ?_
      refine zr_pcn 41 rfl ?_
      obtain ⟨le23, hs22, h⟩ := zoS_s h
      cases ep24 : F_XReader_need sh mm21 o 44 with
      | none =>
        rw [ep24] at h
        dsimp only [zoX] at h
        exact zr_thrV F hno (kT_XReader_need l D tA b sh _ hl h) zd_XReader_readLight_41 (zW_o hs22 (by decide)) rfl zs_XReader_45 rfl zq_XReader_need rfl rfl ⟨(Nat.le_of_ble_eq_true rfl), (Nat.le_of_ble_eq_true rfl)⟩ (Nat.le_of_ble_eq_true rfl) ⟨(Nat.le_of_ble_eq_true rfl), (Nat.le_of_ble_eq_true rfl)⟩ ⟨(Nat.le_of_ble_eq_true rfl), (Nat.le_of_ble_eq_true rfl)⟩
      | some p24 =>
        rw [ep24] at h
        dsimp only [zoX] at h
        refine zr_callV0 F (k_XReader_need l D tA b sh _ ep24) zd_XReader_readLight_41 (zW_o hs22 (by decide)) rfl zs_XReader_45 rfl zq_XReader_need rfl rfl ⟨(Nat.le_of_ble_eq_true rfl), (Nat.le_of_ble_eq_true rfl)⟩ (Nat.le_of_ble_eq_true rfl) ⟨(Nat.le_of_ble_eq_true rfl), (Nat.le_of_ble_eq_true rfl)⟩ ?_
        refine zr_aload_n F zd_XReader_readLight_44 rfl ?_
        obtain ⟨le26, hs25, h⟩ := zoS_s h
        obtain ⟨a27, ea27, h⟩ := zoB_s h
        refine zr_get F 7 7 zd_XReader_readLight_45 (zW_o hs25 (by decide)) rfl (by decide) zw_55 rfl (by rfl) ?_
        refine zr_tor ea27 ?_
        obtain ⟨le29, hs28, h⟩ := zoS_s h
        obtain ⟨a30, ea30, h⟩ := zoB_s h
        refine zr_get F 8 7 zd_XReader_readLight_48 (zW_o hs28 (by decide)) rfl (by decide) zw_306 rfl (by rfl) ?_
        refine zr_tor ea30 ?_
        refine zr_iconstv (v := 3) F zd_XReader_readLight_51 (by decide) ?_
        refine zr_aload_n F zd_XReader_readLight_52 rfl ?_
        refine zr_ldcSW F 14 "ambient" zd_XReader_readLight_53 (by decide +kernel) ?_
        refine zr_iconstv (v := 0) F zd_XReader_readLight_56 (by decide) ?_
        refine zr_pcn 57 rfl ?_
        refine zr_ldc F zd_XReader_readLight_57 zw_1217 ?_
        obtain ⟨le32, hs31, h⟩ := zoS_s h
        cases ep33 : F_XReader_number sh p24 o 14 0 65536 with
        | none =>
          rw [ep33] at h
          dsimp only [zoX] at h
          exact zr_thrV F hno (kT_XReader_number l D tA b sh _ hl h) zd_XReader_readLight_59 (zW_o hs31 (by decide)) rfl zs_XReader_138 rfl zq_XReader_number rfl rfl ⟨(Nat.le_of_ble_eq_true rfl), (Nat.le_of_ble_eq_true rfl)⟩ (Nat.le_of_ble_eq_true rfl) ⟨(Nat.le_of_ble_eq_true rfl), (Nat.le_of_ble_eq_true rfl)⟩ ⟨(Nat.le_of_ble_eq_true rfl), (Nat.le_of_ble_eq_true rfl)⟩
        | some p33 =>
          rw [ep33] at h
          dsimp only [zoX] at h
          refine zr_callV1 F (k_XReader_number l D tA b sh _ ep33) zd_XReader_readLight_59 (zW_o hs31 (by decide)) rfl zs_XReader_138 rfl zq_XReader_number rfl rfl ⟨(Nat.le_of_ble_eq_true rfl), (Nat.le_of_ble_eq_true rfl)⟩ (Nat.le_of_ble_eq_true rfl) ⟨(Nat.le_of_ble_eq_true rfl), (Nat.le_of_ble_eq_true rfl)⟩ ?_
          obtain ⟨le35, hs34, h⟩ := zoS_s h
          obtain ⟨hi36, h⟩ := zoI_s h
          refine zr_iast F zd_XReader_readLight_62 (zW_a0 hs34) hi36 ?_
          obtain ⟨mm37, emm37, h⟩ := zoL_s h
          refine zr_norm (zW tA b sh mm37) _ (by rw [emm37]; exact zW_s0 hs34) rfl ?_
          refine zr_aload_n F zd_XReader_readLight_63 rfl ?_
          refine zr_bipushv (v := 125) F zd_XReader_readLight_64 (by decide) ?_
          obtain ⟨le39, hs38, h⟩ := zoS_s h
          cases ep40 : F_XReader_need sh mm37 o 125 with
          | none =>
            rw [ep40] at h
            dsimp only [zoX] at h
            exact zr_thrV F hno (kT_XReader_need l D tA b sh _ hl h) zd_XReader_readLight_66 (zW_o hs38 (by decide)) rfl zs_XReader_45 rfl zq_XReader_need rfl rfl ⟨(Nat.le_of_ble_eq_true rfl), (Nat.le_of_ble_eq_true rfl)⟩ (Nat.le_of_ble_eq_true rfl) ⟨(Nat.le_of_ble_eq_true rfl), (Nat.le_of_ble_eq_true rfl)⟩ ⟨(Nat.le_of_ble_eq_true rfl), (Nat.le_of_ble_eq_true rfl)⟩
          | some p40 =>
            rw [ep40] at h
            dsimp only [zoX] at h
            refine zr_callV0 F (k_XReader_need l D tA b sh _ ep40) zd_XReader_readLight_66 (zW_o hs38 (by decide)) rfl zs_XReader_45 rfl zq_XReader_need rfl rfl ⟨(Nat.le_of_ble_eq_true rfl), (Nat.le_of_ble_eq_true rfl)⟩ (Nat.le_of_ble_eq_true rfl) ⟨(Nat.le_of_ble_eq_true rfl), (Nat.le_of_ble_eq_true rfl)⟩ ?_
            cases h
