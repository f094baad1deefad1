abbrev zb_XReader_readTexture : ByteArray := prog_8_method_5_code
def zy_XReader_readTexture : MethodName := ⟨"OrreryBox$Reader", "readTexture", "(LOrreryBox$Texture;)V"⟩
theorem zc_XReader_readTexture : Cond.code zy_XReader_readTexture zb_XReader_readTexture 3 none ∈ gw := gw_t 1227 (by decide +kernel) rfl
theorem zq_XReader_readTexture : zy_XReader_readTexture.cls ≠ "java/lang/invoke/MethodHandle" ∧ zy_XReader_readTexture.cls ≠ "java/lang/invoke/VarHandle" ∧ (parseMethodDescriptor zy_XReader_readTexture.desc).map (fun d => d.parameters.length) = some 1 := by decide +kernel
theorem zd_XReader_readTexture_0 : decode zb_XReader_readTexture 0 = .ok (.aload_n 1, 1) := by decide +kernel
theorem zd_XReader_readTexture_1 : decode zb_XReader_readTexture 1 = .ok (.aload_n 0, 1) := by decide +kernel
theorem zd_XReader_readTexture_2 : decode zb_XReader_readTexture 2 = .ok (.ldc 136, 2) := by decide +kernel
theorem zd_XReader_readTexture_4 : decode zb_XReader_readTexture 4 = .ok (.iconst 1, 1) := by decide +kernel
theorem zd_XReader_readTexture_5 : decode zb_XReader_readTexture 5 = .ok (.bipush 32, 2) := by decide +kernel
theorem zd_XReader_readTexture_7 : decode zb_XReader_readTexture 7 = .ok (.invokevirtual 138, 3) := by decide +kernel
theorem zd_XReader_readTexture_10 : decode zb_XReader_readTexture 10 = .ok (.putfield 142, 3) := by decide +kernel
theorem zd_XReader_readTexture_13 : decode zb_XReader_readTexture 13 = .ok (.aload_n 1, 1) := by decide +kernel
theorem zd_XReader_readTexture_14 : decode zb_XReader_readTexture 14 = .ok (.getfield 142, 3) := by decide +kernel
theorem zd_XReader_readTexture_17 : decode zb_XReader_readTexture 17 = .ok (.aload_n 1, 1) := by decide +kernel
theorem zd_XReader_readTexture_18 : decode zb_XReader_readTexture 18 = .ok (.getfield 142, 3) := by decide +kernel
theorem zd_XReader_readTexture_21 : decode zb_XReader_readTexture 21 = .ok (.iconst 1, 1) := by decide +kernel
theorem zd_XReader_readTexture_22 : decode zb_XReader_readTexture 22 = .ok (.isub, 1) := by decide +kernel
theorem zd_XReader_readTexture_23 : decode zb_XReader_readTexture 23 = .ok (.iand, 1) := by decide +kernel
theorem zd_XReader_readTexture_24 : decode zb_XReader_readTexture 24 = .ok (.ifCond .eq 12, 3) := by decide +kernel
theorem zd_XReader_readTexture_27 : decode zb_XReader_readTexture 27 = .ok (.aload_n 0, 1) := by decide +kernel
theorem zd_XReader_readTexture_28 : decode zb_XReader_readTexture 28 = .ok (.iconst 2, 1) := by decide +kernel
theorem zd_XReader_readTexture_29 : decode zb_XReader_readTexture 29 = .ok (.aload_n 0, 1) := by decide +kernel
theorem zd_XReader_readTexture_30 : decode zb_XReader_readTexture 30 = .ok (.getfield 146, 3) := by decide +kernel
theorem zd_XReader_readTexture_33 : decode zb_XReader_readTexture 33 = .ok (.invokevirtual 77, 3) := by decide +kernel
theorem zd_XReader_readTexture_36 : decode zb_XReader_readTexture 36 = .ok (.aload_n 0, 1) := by decide +kernel
theorem zd_XReader_readTexture_37 : decode zb_XReader_readTexture 37 = .ok (.bipush 44, 2) := by decide +kernel
theorem zd_XReader_readTexture_39 : decode zb_XReader_readTexture 39 = .ok (.invokevirtual 45, 3) := by decide +kernel
theorem zd_XReader_readTexture_42 : decode zb_XReader_readTexture 42 = .ok (.aload_n 1, 1) := by decide +kernel
theorem zd_XReader_readTexture_43 : decode zb_XReader_readTexture 43 = .ok (.aload_n 0, 1) := by decide +kernel
theorem zd_XReader_readTexture_44 : decode zb_XReader_readTexture 44 = .ok (.ldc 149, 2) := by decide +kernel
theorem zd_XReader_readTexture_46 : decode zb_XReader_readTexture 46 = .ok (.iconst 0, 1) := by decide +kernel
theorem zd_XReader_readTexture_47 : decode zb_XReader_readTexture 47 = .ok (.iconst 2, 1) := by decide +kernel
theorem zd_XReader_readTexture_48 : decode zb_XReader_readTexture 48 = .ok (.invokevirtual 138, 3) := by decide +kernel
theorem zd_XReader_readTexture_51 : decode zb_XReader_readTexture 51 = .ok (.putfield 151, 3) := by decide +kernel
theorem zd_XReader_readTexture_54 : decode zb_XReader_readTexture 54 = .ok (.aload_n 0, 1) := by decide +kernel
theorem zd_XReader_readTexture_55 : decode zb_XReader_readTexture 55 = .ok (.bipush 44, 2) := by decide +kernel
theorem zd_XReader_readTexture_57 : decode zb_XReader_readTexture 57 = .ok (.invokevirtual 45, 3) := by decide +kernel
theorem zd_XReader_readTexture_60 : decode zb_XReader_readTexture 60 = .ok (.aload_n 1, 1) := by decide +kernel
theorem zd_XReader_readTexture_61 : decode zb_XReader_readTexture 61 = .ok (.aload_n 0, 1) := by decide +kernel
theorem zd_XReader_readTexture_62 : decode zb_XReader_readTexture 62 = .ok (.ldc 153, 2) := by decide +kernel
theorem zd_XReader_readTexture_64 : decode zb_XReader_readTexture 64 = .ok (.iconst 0, 1) := by decide +kernel
theorem zd_XReader_readTexture_65 : decode zb_XReader_readTexture 65 = .ok (.iconst 1, 1) := by decide +kernel
theorem zd_XReader_readTexture_66 : decode zb_XReader_readTexture 66 = .ok (.invokevirtual 138, 3) := by decide +kernel
theorem zd_XReader_readTexture_69 : decode zb_XReader_readTexture 69 = .ok (.iconst 1, 1) := by decide +kernel
theorem zd_XReader_readTexture_70 : decode zb_XReader_readTexture 70 = .ok (.if_icmp .ne 7, 3) := by decide +kernel
theorem zd_XReader_readTexture_73 : decode zb_XReader_readTexture 73 = .ok (.iconst 1, 1) := by decide +kernel
theorem zd_XReader_readTexture_74 : decode zb_XReader_readTexture 74 = .ok (.goto 4, 3) := by decide +kernel
theorem zd_XReader_readTexture_77 : decode zb_XReader_readTexture 77 = .ok (.iconst 0, 1) := by decide +kernel
theorem zd_XReader_readTexture_78 : decode zb_XReader_readTexture 78 = .ok (.putfield 155, 3) := by decide +kernel
theorem zd_XReader_readTexture_81 : decode zb_XReader_readTexture 81 = .ok (.aload_n 0, 1) := by decide +kernel
theorem zd_XReader_readTexture_82 : decode zb_XReader_readTexture 82 = .ok (.bipush 44, 2) := by decide +kernel
theorem zd_XReader_readTexture_84 : decode zb_XReader_readTexture 84 = .ok (.invokevirtual 45, 3) := by decide +kernel
theorem zd_XReader_readTexture_87 : decode zb_XReader_readTexture 87 = .ok (.iconst 3, 1) := by decide +kernel
theorem zd_XReader_readTexture_88 : decode zb_XReader_readTexture 88 = .ok (.aload_n 1, 1) := by decide +kernel
theorem zd_XReader_readTexture_89 : decode zb_XReader_readTexture 89 = .ok (.getfield 142, 3) := by decide +kernel
theorem zd_XReader_readTexture_92 : decode zb_XReader_readTexture 92 = .ok (.imul, 1) := by decide +kernel
theorem zd_XReader_readTexture_93 : decode zb_XReader_readTexture 93 = .ok (.aload_n 1, 1) := by decide +kernel
theorem zd_XReader_readTexture_94 : decode zb_XReader_readTexture 94 = .ok (.getfield 142, 3) := by decide +kernel
theorem zd_XReader_readTexture_97 : decode zb_XReader_readTexture 97 = .ok (.imul, 1) := by decide +kernel
theorem zd_XReader_readTexture_98 : decode zb_XReader_readTexture 98 = .ok (.istore_n 2, 1) := by decide +kernel
theorem zd_XReader_readTexture_99 : decode zb_XReader_readTexture 99 = .ok (.aload_n 0, 1) := by decide +kernel
theorem zd_XReader_readTexture_100 : decode zb_XReader_readTexture 100 = .ok (.ldc 158, 2) := by decide +kernel
theorem zd_XReader_readTexture_102 : decode zb_XReader_readTexture 102 = .ok (.iload_n 2, 1) := by decide +kernel
theorem zd_XReader_readTexture_103 : decode zb_XReader_readTexture 103 = .ok (.iload_n 2, 1) := by decide +kernel
theorem zd_XReader_readTexture_104 : decode zb_XReader_readTexture 104 = .ok (.iconst 0, 1) := by decide +kernel
theorem zd_XReader_readTexture_105 : decode zb_XReader_readTexture 105 = .ok (.sipush 255, 3) := by decide +kernel
theorem zd_XReader_readTexture_108 : decode zb_XReader_readTexture 108 = .ok (.iconst 0, 1) := by decide +kernel
theorem zd_XReader_readTexture_109 : decode zb_XReader_readTexture 109 = .ok (.invokevirtual 160, 3) := by decide +kernel
theorem zd_XReader_readTexture_112 : decode zb_XReader_readTexture 112 = .ok (.pop, 1) := by decide +kernel
theorem zd_XReader_readTexture_113 : decode zb_XReader_readTexture 113 = .ok (.aload_n 1, 1) := by decide +kernel
theorem zd_XReader_readTexture_114 : decode zb_XReader_readTexture 114 = .ok (.aload_n 0, 1) := by decide +kernel
theorem zd_XReader_readTexture_115 : decode zb_XReader_readTexture 115 = .ok (.getfield 9, 3) := by decide +kernel
theorem zd_XReader_readTexture_118 : decode zb_XReader_readTexture 118 = .ok (.invokevirtual 164, 3) := by decide +kernel
theorem zd_XReader_readTexture_121 : decode zb_XReader_readTexture 121 = .ok (.return_, 1) := by decide +kernel
theorem zw_1207 : (Jvm.Cond.methodLink "OrreryBox$Reader" (138 : Nat) ({ cls := "OrreryBox$Reader", name := "number", desc := "(Ljava/lang/String;II)I" } : Jvm.MethodName)) ∈ gw := gw_t 1207 (by decide +kernel) rfl
theorem zw_1209 : (Jvm.Cond.instanceMethod ({ cls := "OrreryBox$Reader", name := "number", desc := "(Ljava/lang/String;II)I" } : Jvm.MethodName)) ∈ gw := gw_t 1209 (by decide +kernel) rfl
theorem zv_58 : (Jvm.Cond.selects "OrreryBox$Reader" (⟨"OrreryBox$Reader", "number", "(Ljava/lang/String;II)I"⟩ : MethodName) ⟨"OrreryBox$Reader", "number", "(Ljava/lang/String;II)I"⟩) ∈ gw := gw_s 58 (by decide +kernel) rfl
theorem zs_XReader_138 : zwV "OrreryBox$Reader" 138 "OrreryBox$Reader" zy_XReader_number zb_XReader_number 4 (some .int) := ⟨zw_1207, zw_1209, zv_58, zw_2, zc_XReader_number⟩
theorem zw_149 : (Jvm.Cond.fieldLink "OrreryBox$Reader" (142 : Nat) "OrreryBox$Texture" "side" "I") ∈ gw := gw_t 149 (by decide +kernel) rfl
theorem zf_I_10_0 (b : Nat) (m : zMem) (k : Nat) (v : Int32) : (zfl b 10 m k).set 0 (.int v) = zfl b 10 (mI m k 0 v) k := by simp [zfl, mI, upd, vp_updL]
theorem zw_150 : (Jvm.Cond.fieldLink "OrreryBox$Reader" (151 : Nat) "OrreryBox$Texture" "wrap" "I") ∈ gw := gw_t 150 (by decide +kernel) rfl
theorem zf_I_10_1 (b : Nat) (m : zMem) (k : Nat) (v : Int32) : (zfl b 10 m k).set 1 (.int v) = zfl b 10 (mI m k 1 v) k := by simp [zfl, mI, upd, vp_updL]
theorem zw_152 : (Jvm.Cond.fieldLink "OrreryBox$Reader" (155 : Nat) "OrreryBox$Texture" "soft" "Z") ∈ gw := gw_t 152 (by decide +kernel) rfl
theorem zf_I_10_2 (b : Nat) (m : zMem) (k : Nat) (v : Int32) : (zfl b 10 m k).set 2 (.int v) = zfl b 10 (mI m k 2 v) k := by simp [zfl, mI, upd, vp_updL]
theorem zw_1187 : (Jvm.Cond.methodLink "OrreryBox$Reader" (160 : Nat) ({ cls := "OrreryBox$Reader", name := "numbers", desc := "(Ljava/lang/String;IIIIZ)I" } : Jvm.MethodName)) ∈ gw := gw_t 1187 (by decide +kernel) rfl
theorem zw_1189 : (Jvm.Cond.instanceMethod ({ cls := "OrreryBox$Reader", name := "numbers", desc := "(Ljava/lang/String;IIIIZ)I" } : Jvm.MethodName)) ∈ gw := gw_t 1189 (by decide +kernel) rfl
theorem zv_55 : (Jvm.Cond.selects "OrreryBox$Reader" (⟨"OrreryBox$Reader", "numbers", "(Ljava/lang/String;IIIIZ)I"⟩ : MethodName) ⟨"OrreryBox$Reader", "numbers", "(Ljava/lang/String;IIIIZ)I"⟩) ∈ gw := gw_s 55 (by decide +kernel) rfl
theorem zs_XReader_160 : zwV "OrreryBox$Reader" 160 "OrreryBox$Reader" zy_XReader_numbers zb_XReader_numbers 10 (some .int) := ⟨zw_1187, zw_1189, zv_55, zw_2, zc_XReader_numbers⟩
theorem zw_1232 : (Jvm.Cond.methodLink "OrreryBox$Reader" (164 : Nat) ({ cls := "OrreryBox$Texture", name := "fill", desc := "([I)V" } : Jvm.MethodName)) ∈ gw := gw_t 1232 (by decide +kernel) rfl
theorem zw_1233 : (Jvm.Cond.instanceMethod ({ cls := "OrreryBox$Texture", name := "fill", desc := "([I)V" } : Jvm.MethodName)) ∈ gw := gw_t 1233 (by decide +kernel) rfl
theorem zw_1234 : (Jvm.Cond.selects "OrreryBox$Texture" ({ cls := "OrreryBox$Texture", name := "fill", desc := "([I)V" } : Jvm.MethodName) ({ cls := "OrreryBox$Texture", name := "fill", desc := "([I)V" } : Jvm.MethodName)) ∈ gw := gw_t 1234 (by decide +kernel) rfl
theorem zs_XReader_164 : zwV "OrreryBox$Reader" 164 "OrreryBox$Texture" zy_XTexture_fill zb_XTexture_fill 3 none := ⟨zw_1232, zw_1233, zw_1234, zw_6, zc_XTexture_fill⟩
def F_XReader_readTexture (sh : zSh) (mm : zMem) (o : Nat) (x0_ : Nat) : Option zMem := zoS (sh o) 7 (fun le2 => Option.bind (F_XReader_number sh mm o 15 1 32) (fun p3 => zoS (sh x0_) 10 (fun le5 => zoL (mI (p3.2) x0_ 0 (p3.1)) (fun mm6 => zoS (sh x0_) 10 (fun le8 => zoS (sh x0_) 10 (fun le10 => (if ((mm6.1 x0_ 0) &&& ((mm6.1 x0_ 0) - 1)) = 0 then zoS (sh o) 7 (fun le13 => Option.bind (F_XReader_need sh mm6 o 44) (fun p14 => zoS (sh o) 7 (fun le16 => Option.bind (F_XReader_number sh p14 o 16 0 2) (fun p17 => zoS (sh x0_) 10 (fun le19 => zoL (mI (p17.2) x0_ 1 (p17.1)) (fun mm20 => zoS (sh o) 7 (fun le22 => Option.bind (F_XReader_need sh mm20 o 44) (fun p23 => zoS (sh o) 7 (fun le25 => Option.bind (F_XReader_number sh p23 o 17 0 1) (fun p26 => (if p26.1 = 1 then zoS (sh x0_) 10 (fun le49 => zoL (mI (p26.2) x0_ 2 1) (fun mm50 => zoS (sh o) 7 (fun le52 => Option.bind (F_XReader_need sh mm50 o 44) (fun p53 => zoS (sh x0_) 10 (fun le55 => zoS (sh x0_) 10 (fun le57 => zoL ((3 * (p53.1 x0_ 0)) * (p53.1 x0_ 0)) (fun x58 => zoS (sh o) 7 (fun le60 => Option.bind (F_XReader_numbers sh p53 o 18 x58 x58 0 255 0) (fun p61 => zoS (sh o) 7 (fun le63 => Option.bind ((p61.2).2.2 o 2) (fun a64 => zoS (sh x0_) 10 (fun le66 => Option.bind (F_XTexture_fill sh (p61.2) x0_ a64) (fun p67 => some p67))))))))))))) else zoS (sh x0_) 10 (fun le29 => zoL (mI (p26.2) x0_ 2 0) (fun mm30 => zoS (sh o) 7 (fun le32 => Option.bind (F_XReader_need sh mm30 o 44) (fun p33 => zoS (sh x0_) 10 (fun le35 => zoS (sh x0_) 10 (fun le37 => zoL ((3 * (p33.1 x0_ 0)) * (p33.1 x0_ 0)) (fun x38 => zoS (sh o) 7 (fun le40 => Option.bind (F_XReader_numbers sh p33 o 18 x38 x38 0 255 0) (fun p41 => zoS (sh o) 7 (fun le43 => Option.bind ((p41.2).2.2 o 2) (fun a44 => zoS (sh x0_) 10 (fun le46 => Option.bind (F_XTexture_fill sh (p41.2) x0_ a44) (fun p47 => some p47)))))))))))))))))))))))) else zoS (sh o) 7 (fun le69 => zoS (sh o) 7 (fun le71 => none)))))))))
set_option maxHeartbeats 4000000 in
set_option maxRecDepth 100000 in
theorem k_XReader_readTexture (l : Launch) (D : va_G) (tA : Nat → ClassId) (b : Nat) (sh : zSh) (n : Nat) {mm : zMem} {o : Nat} {x0_ : Nat} {r : zMem} (h : F_XReader_readTexture sh mm o x0_ = some r) : zM l D tA b zy_XReader_readTexture zb_XReader_readTexture 3 none 7 158 0 0 [.ref (b + o), .ref (b + x0_)] (zW tA b sh mm) n (zE none (zW tA b sh r) n) := by
  unfold F_XReader_readTexture at h
  refine zM_of (own := "OrreryBox$Reader") (plainFor_of_name (by decide)) rfl (Nat.le_of_ble_eq_true rfl) (fun p e s m below meth c F hr hin hH => ?_)
  refine zr_aload_n F zd_XReader_readTexture_0 rfl ?_
  refine zr_aload_n F zd_XReader_readTexture_1 rfl ?_
  refine zr_ldcS F 15 "side" zd_XReader_readTexture_2 (by decide +kernel) ?_
  refine zr_iconstv (v := 1) F zd_XReader_readTexture_4 (by decide) ?_
  refine zr_bipushv (v := 32) F zd_XReader_readTexture_5 (by decide) ?_
  obtain ⟨le2, hs1, h⟩ := zoS_s h
  obtain ⟨p3, ep3, h⟩ := zoB_s h
  refine zr_callV1 F (k_XReader_number l D tA b sh _ ep3) zd_XReader_readTexture_7 (zW_o hs1 (by decide)) rfl zs_XReader_138 rfl zq_XReader_number rfl rfl ⟨(Nat.le_of_ble_eq_true rfl), (Nat.le_of_ble_eq_true rfl)⟩ (Nat.le_of_ble_eq_true rfl) ⟨(Nat.le_of_ble_eq_true rfl), (Nat.le_of_ble_eq_true rfl)⟩ ?_
  obtain ⟨le5, hs4, h⟩ := zoS_s h
  refine zr_put F 10 0 zd_XReader_readTexture_10 (zW_o hs4 (by decide)) rfl (by decide) zw_149 rfl rfl rfl rfl (by exact (Nat.le_of_ble_eq_true rfl)) ?_
  obtain ⟨mm6, emm6, h⟩ := zoL_s h
  refine zr_norm (zW tA b sh mm6) _ (by rw [emm6]; exact zW_pI (v := (p3.1)) hs4 (by decide) (zf_I_10_0 b _ _ _)) rfl ?_
  refine zr_pcn 13 rfl ?_
  refine zr_aload_n F zd_XReader_readTexture_13 rfl ?_
  obtain ⟨le8, hs7, h⟩ := zoS_s h
  refine zr_get F 10 0 zd_XReader_readTexture_14 (zW_o hs7 (by decide)) rfl (by decide) zw_149 rfl (by rfl) ?_
  refine zr_aload_n F zd_XReader_readTexture_17 rfl ?_
  obtain ⟨le10, hs9, h⟩ := zoS_s h
  refine zr_get F 10 0 zd_XReader_readTexture_18 (zW_o hs9 (by decide)) rfl (by decide) zw_149 rfl (by rfl) ?_
  refine zr_iconstv (v := 1) F zd_XReader_readTexture_21 (by decide) ?_
  refine zr_isub F zd_XReader_readTexture_22 ?_
  refine zr_iand F zd_XReader_readTexture_23 ?_
  refine zr_if_eq F 36 zd_XReader_readTexture_24 (by decide) (fun hb11 => ?_) (fun hb11 => ?_)
  ·
    replace h := (if_pos hb11).symm.trans h
    refine zr_pcn 36 rfl ?_
    refine zr_aload_n F zd_XReader_readTexture_36 rfl ?_
    refine zr_bipushv (v := 44) F zd_XReader_readTexture_37 (by decide) ?_
    obtain ⟨le13, hs12, h⟩ := zoS_s h
    obtain ⟨p14, ep14, h⟩ := zoB_s h
    refine zr_callV0 F (k_XReader_need l D tA b sh _ ep14) zd_XReader_readTexture_39 (zW_o hs12 (by decide)) rfl zs_XReader_45 rfl zq_XReader_need rfl rfl ⟨(Nat.le_of_ble_eq_true rfl), (Nat.le_of_ble_eq_true rfl)⟩ (Nat.le_of_ble_eq_true rfl) ⟨(Nat.le_of_ble_eq_true rfl), (Nat.le_of_ble_eq_true rfl)⟩ ?_
    refine zr_aload_n F zd_XReader_readTexture_42 rfl ?_
    refine zr_aload_n F zd_XReader_readTexture_43 rfl ?_
    refine zr_ldcS F 16 "wrap" zd_XReader_readTexture_44 (by decide +kernel) ?_
    refine zr_iconstv (v := 0) F zd_XReader_readTexture_46 (by decide) ?_
    refine zr_iconstv (v := 2) F zd_XReader_readTexture_47 (by decide) ?_
    refine zr_pcn 48 rfl ?_
    obtain ⟨le16, hs15, h⟩ := zoS_s h
    obtain ⟨p17, ep17, h⟩ := zoB_s h
    refine zr_callV1 F (k_XReader_number l D tA b sh _ ep17) zd_XReader_readTexture_48 (zW_o hs15 (by decide)) rfl zs_XReader_138 rfl zq_XReader_number rfl rfl ⟨(Nat.le_of_ble_eq_true rfl), (Nat.le_of_ble_eq_true rfl)⟩ (Nat.le_of_ble_eq_true rfl) ⟨(Nat.le_of_ble_eq_true rfl), (Nat.le_of_ble_eq_true rfl)⟩ ?_
    obtain ⟨le19, hs18, h⟩ := zoS_s h
    refine zr_put F 10 1 zd_XReader_readTexture_51 (zW_o hs18 (by decide)) rfl (by decide) zw_150 rfl rfl rfl rfl (by exact (Nat.le_of_ble_eq_true rfl)) ?_
    obtain ⟨mm20, emm20, h⟩ := zoL_s h
    refine zr_norm (zW tA b sh mm20) _ (by rw [emm20]; exact zW_pI (v := (p17.1)) hs18 (by decide) (zf_I_10_1 b _ _ _)) rfl ?_
    refine zr_aload_n F zd_XReader_readTexture_54 rfl ?_
    refine zr_bipushv (v := 44) F zd_XReader_readTexture_55 (by decide) ?_
    obtain ⟨le22, hs21, h⟩ := zoS_s h
    obtain ⟨p23, ep23, h⟩ := zoB_s h
    refine zr_callV0 F (k_XReader_need l D tA b sh _ ep23) zd_XReader_readTexture_57 (zW_o hs21 (by decide)) rfl zs_XReader_45 rfl zq_XReader_need rfl rfl ⟨(Nat.le_of_ble_eq_true rfl), (Nat.le_of_ble_eq_true rfl)⟩ (Nat.le_of_ble_eq_true rfl) ⟨(Nat.le_of_ble_eq_true rfl), (Nat.le_of_ble_eq_true rfl)⟩ ?_
    refine zr_aload_n F zd_XReader_readTexture_60 rfl ?_
    refine zr_aload_n F zd_XReader_readTexture_61 rfl ?_
    refine zr_ldcS F 17 "soft" zd_XReader_readTexture_62 (by decide +kernel) ?_
    refine zr_pcn 64 rfl ?_
    refine zr_iconstv (v := 0) F zd_XReader_readTexture_64 (by decide) ?_
    refine zr_iconstv (v := 1) F zd_XReader_readTexture_65 (by decide) ?_
    obtain ⟨le25, hs24, h⟩ := zoS_s h
    obtain ⟨p26, ep26, h⟩ := zoB_s h
    refine zr_callV1 F (k_XReader_number l D tA b sh _ ep26) zd_XReader_readTexture_66 (zW_o hs24 (by decide)) rfl zs_XReader_138 rfl zq_XReader_number rfl rfl ⟨(Nat.le_of_ble_eq_true rfl), (Nat.le_of_ble_eq_true rfl)⟩ (Nat.le_of_ble_eq_true rfl) ⟨(Nat.le_of_ble_eq_true rfl), (Nat.le_of_ble_eq_true rfl)⟩ ?_
    refine zr_iconstv (v := 1) F zd_XReader_readTexture_69 (by decide) ?_
    refine zr_icmp_ne F 77 zd_XReader_readTexture_70 (by decide) (fun hb27 => ?_) (fun hb27 => ?_)
    ·
      replace h := (if_neg hb27).symm.trans h
      refine zr_iconstv (v := 0) F zd_XReader_readTexture_77 (by decide) ?_
      obtain ⟨le29, hs28, h⟩ := zoS_s h
      refine zr_put F 10 2 zd_XReader_readTexture_78 (zW_o hs28 (by decide)) rfl (by decide) zw_152 rfl rfl rfl rfl (by exact (Nat.le_of_ble_eq_true rfl)) ?_
      obtain ⟨mm30, emm30, h⟩ := zoL_s h
      refine zr_norm (zW tA b sh mm30) _ (by rw [emm30]; exact zW_pI (v := 0) hs28 (by decide) (zf_I_10_2 b _ _ _)) rfl ?_
      refine zr_aload_n F zd_XReader_readTexture_81 rfl ?_
      refine zr_pcn 82 rfl ?_
      refine zr_bipushv (v := 44) F zd_XReader_readTexture_82 (by decide) ?_
      obtain ⟨le32, hs31, h⟩ := zoS_s h
      obtain ⟨p33, ep33, h⟩ := zoB_s h
      refine zr_callV0 F (k_XReader_need l D tA b sh _ ep33) zd_XReader_readTexture_84 (zW_o hs31 (by decide)) rfl zs_XReader_45 rfl zq_XReader_need rfl rfl ⟨(Nat.le_of_ble_eq_true rfl), (Nat.le_of_ble_eq_true rfl)⟩ (Nat.le_of_ble_eq_true rfl) ⟨(Nat.le_of_ble_eq_true rfl), (Nat.le_of_ble_eq_true rfl)⟩ ?_
      refine zr_iconstv (v := 3) F zd_XReader_readTexture_87 (by decide) ?_
      refine zr_aload_n F zd_XReader_readTexture_88 rfl ?_
      obtain ⟨le35, hs34, h⟩ := zoS_s h
      refine zr_get F 10 0 zd_XReader_readTexture_89 (zW_o hs34 (by decide)) rfl (by decide) zw_149 rfl (by rfl) ?_
      refine zr_imul F zd_XReader_readTexture_92 ?_
      refine zr_aload_n F zd_XReader_readTexture_93 rfl ?_
      obtain ⟨le37, hs36, h⟩ := zoS_s h
      refine zr_get F 10 0 zd_XReader_readTexture_94 (zW_o hs36 (by decide)) rfl (by decide) zw_149 rfl (by rfl) ?_
      refine zr_pcn 97 rfl ?_
      refine zr_imul F zd_XReader_readTexture_97 ?_
      obtain ⟨x38, ex38, h⟩ := zoL_s h
      rw [← ex38]
      refine zr_istore_n F zd_XReader_readTexture_98 (by decide) ?_
      refine zr_aload_n F zd_XReader_readTexture_99 rfl ?_
      refine zr_ldcS F 18 "texels" zd_XReader_readTexture_100 (by decide +kernel) ?_
      refine zr_iload_n F zd_XReader_readTexture_102 rfl ?_
      refine zr_iload_n F zd_XReader_readTexture_103 rfl ?_
      refine zr_iconstv (v := 0) F zd_XReader_readTexture_104 (by decide) ?_
      refine zr_sipushv (v := 255) F zd_XReader_readTexture_105 (by decide) ?_
      refine zr_pcn 108 rfl ?_
      refine zr_iconstv (v := 0) F zd_XReader_readTexture_108 (by decide) ?_
      obtain ⟨le40, hs39, h⟩ := zoS_s h
      obtain ⟨p41, ep41, h⟩ := zoB_s h
      refine zr_callV1 F (k_XReader_numbers l D tA b sh _ ep41) zd_XReader_readTexture_109 (zW_o hs39 (by decide)) rfl zs_XReader_160 rfl zq_XReader_numbers rfl rfl ⟨(Nat.le_of_ble_eq_true rfl), (Nat.le_of_ble_eq_true rfl)⟩ (Nat.le_of_ble_eq_true rfl) ⟨(Nat.le_of_ble_eq_true rfl), (Nat.le_of_ble_eq_true rfl)⟩ ?_
      refine zr_pop F zd_XReader_readTexture_112 rfl ?_
      refine zr_aload_n F zd_XReader_readTexture_113 rfl ?_
      refine zr_aload_n F zd_XReader_readTexture_114 rfl ?_
      obtain ⟨le43, hs42, h⟩ := zoS_s h
      obtain ⟨a44, ea44, h⟩ := zoB_s h
      refine zr_get F 7 2 zd_XReader_readTexture_115 (zW_o hs42 (by decide)) rfl (by decide) zw_50 rfl (by rfl) ?_
      refine zr_tor ea44 ?_
      obtain ⟨le46, hs45, h⟩ := zoS_s h
      obtain ⟨p47, ep47, h⟩ := zoB_s h
      refine zr_callV0 F (k_XTexture_fill l D tA b sh _ ep47) zd_XReader_readTexture_118 (zW_o hs45 (by decide)) rfl zs_XReader_164 rfl zq_XTexture_fill rfl rfl ⟨(Nat.le_of_ble_eq_true rfl), (Nat.le_of_ble_eq_true rfl)⟩ (Nat.le_of_ble_eq_true rfl) ⟨(Nat.le_of_ble_eq_true rfl), (Nat.le_of_ble_eq_true rfl)⟩ ?_
      obtain rfl := Option.some.inj h
      exact zr_vret F hr zd_XReader_readTexture_121 (Nat.le_of_ble_eq_true rfl) (Nat.le_of_ble_eq_true rfl) ⟨rfl, rfl, rfl⟩
    ·
      replace h := (if_pos hb27).symm.trans h
      refine zr_pcn 73 rfl ?_
      refine zr_iconstv (v := 1) F zd_XReader_readTexture_73 (by decide) ?_
      refine zr_goto F 78 zd_XReader_readTexture_74 (by decide) ?_
      obtain ⟨le49, hs48, h⟩ := zoS_s h
      refine zr_put F 10 2 zd_XReader_readTexture_78 (zW_o hs48 (by decide)) rfl (by decide) zw_152 rfl rfl rfl rfl (by exact (Nat.le_of_ble_eq_true rfl)) ?_
      obtain ⟨mm50, emm50, h⟩ := zoL_s h
      refine zr_norm (zW tA b sh mm50) _ (by rw [emm50]; exact zW_pI (v := 1) hs48 (by decide) (zf_I_10_2 b _ _ _)) rfl ?_
      refine zr_aload_n F zd_XReader_readTexture_81 rfl ?_
      refine zr_bipushv (v := 44) F zd_XReader_readTexture_82 (by decide) ?_
      obtain ⟨le52, hs51, h⟩ := zoS_s h
      obtain ⟨p53, ep53, h⟩ := zoB_s h
      refine zr_callV0 F (k_XReader_need l D tA b sh _ ep53) zd_XReader_readTexture_84 (zW_o hs51 (by decide)) rfl zs_XReader_45 rfl zq_XReader_need rfl rfl ⟨(Nat.le_of_ble_eq_true rfl), (Nat.le_of_ble_eq_true rfl)⟩ (Nat.le_of_ble_eq_true rfl) ⟨(Nat.le_of_ble_eq_true rfl), (Nat.le_of_ble_eq_true rfl)⟩ ?_
      refine zr_iconstv (v := 3) F zd_XReader_readTexture_87 (by decide) ?_
      refine zr_aload_n F zd_XReader_readTexture_88 rfl ?_
      refine zr_pcn 89 rfl ?_
      obtain ⟨le55, hs54, h⟩ := zoS_s h
      refine zr_get F 10 0 zd_XReader_readTexture_89 (zW_o hs54 (by decide)) rfl (by decide) zw_149 rfl (by rfl) ?_
      refine zr_imul F zd_XReader_readTexture_92 ?_
      refine zr_aload_n F zd_XReader_readTexture_93 rfl ?_
      obtain ⟨le57, hs56, h⟩ := zoS_s h
      refine zr_get F 10 0 zd_XReader_readTexture_94 (zW_o hs56 (by decide)) rfl (by decide) zw_149 rfl (by rfl) ?_
      refine zr_imul F zd_XReader_readTexture_97 ?_
      obtain ⟨x58, ex58, h⟩ := zoL_s h
      rw [← ex58]
      refine zr_istore_n F zd_XReader_readTexture_98 (by decide) ?_
      refine zr_aload_n F zd_XReader_readTexture_99 rfl ?_
      refine zr_ldcS F 18 "texels" zd_XReader_readTexture_100 (by decide +kernel) ?_
      refine zr_pcn 102 rfl ?_
      refine zr_iload_n F zd_XReader_readTexture_102 rfl ?_
      refine zr_iload_n F zd_XReader_readTexture_103 rfl ?_
      refine zr_iconstv (v := 0) F zd_XReader_readTexture_104 (by decide) ?_
      refine zr_sipushv (v := 255) F zd_XReader_readTexture_105 (by decide) ?_
      refine zr_iconstv (v := 0) F zd_XReader_readTexture_108 (by decide) ?_
      obtain ⟨le60, hs59, h⟩ := zoS_s h
      obtain ⟨p61, ep61, h⟩ := zoB_s h
      refine zr_callV1 F (k_XReader_numbers l D tA b sh _ ep61) zd_XReader_readTexture_109 (zW_o hs59 (by decide)) rfl zs_XReader_160 rfl zq_XReader_numbers rfl rfl ⟨(Nat.le_of_ble_eq_true rfl), (Nat.le_of_ble_eq_true rfl)⟩ (Nat.le_of_ble_eq_true rfl) ⟨(Nat.le_of_ble_eq_true rfl), (Nat.le_of_ble_eq_true rfl)⟩ ?_
      refine zr_pop F zd_XReader_readTexture_112 rfl ?_
      refine zr_aload_n F zd_XReader_readTexture_113 rfl ?_
      refine zr_pcn 114 rfl ?_
      refine zr_aload_n F zd_XReader_readTexture_114 rfl ?_
      obtain ⟨le63, hs62, h⟩ := zoS_s h
      obtain ⟨a64, ea64, h⟩ := zoB_s h
      refine zr_get F 7 2 zd_XReader_readTexture_115 (zW_o hs62 (by decide)) rfl (by decide) zw_50 rfl (by rfl) ?_
      refine zr_tor ea64 ?_
      obtain ⟨le66, hs65, h⟩ := zoS_s h
      obtain ⟨p67, ep67, h⟩ := zoB_s h
      refine zr_callV0 F (k_XTexture_fill l D tA b sh _ ep67) zd_XReader_readTexture_118 (zW_o hs65 (by decide)) rfl zs_XReader_164 rfl zq_XTexture_fill rfl rfl ⟨(Nat.le_of_ble_eq_true rfl), (Nat.le_of_ble_eq_true rfl)⟩ (Nat.le_of_ble_eq_true rfl) ⟨(Nat.le_of_ble_eq_true rfl), (Nat.le_of_ble_eq_true rfl)⟩ ?_
      obtain rfl := Option.some.inj h
      exact zr_vret F hr zd_XReader_readTexture_121 (Nat.le_of_ble_eq_true rfl) (Nat.le_of_ble_eq_true rfl) ⟨rfl, rfl, rfl⟩
  ·
    replace h := (if_neg hb11).symm.trans h
    refine zr_aload_n F zd_XReader_readTexture_27 rfl ?_
    refine zr_iconstv (v := 2) F zd_XReader_readTexture_28 (by decide) ?_
    refine zr_aload_n F zd_XReader_readTexture_29 rfl ?_
    obtain ⟨le69, hs68, h⟩ := zoS_s h
    refine zr_get F 7 6 zd_XReader_readTexture_30 (zW_o hs68 (by decide)) rfl (by decide) zw_54 rfl (by rfl) ?_
    refine zr_pcn 33 rfl ?_
    obtain ⟨le71, hs70, h⟩ := zoS_s h
    cases h
def T_XReader_readTexture (sh : zSh) (mm : zMem) (o : Nat) (x0_ : Nat) : Option zMem := zoS (sh o) 7 (fun le2 => zoX (F_XReader_number sh mm o 15 1 32) (T_XReader_number sh mm o 15 1 32) (fun p3 => zoS (sh x0_) 10 (fun le5 => zoL (mI (p3.2) x0_ 0 (p3.1)) (fun mm6 => zoS (sh x0_) 10 (fun le8 => zoS (sh x0_) 10 (fun le10 => (if ((mm6.1 x0_ 0) &&& ((mm6.1 x0_ 0) - 1)) = 0 then zoS (sh o) 7 (fun le13 => zoX (F_XReader_need sh mm6 o 44) (T_XReader_need sh mm6 o 44) (fun p14 => zoS (sh o) 7 (fun le16 => zoX (F_XReader_number sh p14 o 16 0 2) (T_XReader_number sh p14 o 16 0 2) (fun p17 => zoS (sh x0_) 10 (fun le19 => zoL (mI (p17.2) x0_ 1 (p17.1)) (fun mm20 => zoS (sh o) 7 (fun le22 => zoX (F_XReader_need sh mm20 o 44) (T_XReader_need sh mm20 o 44) (fun p23 => zoS (sh o) 7 (fun le25 => zoX (F_XReader_number sh p23 o 17 0 1) (T_XReader_number sh p23 o 17 0 1) (fun p26 => (if p26.1 = 1 then zoS (sh x0_) 10 (fun le49 => zoL (mI (p26.2) x0_ 2 1) (fun mm50 => zoS (sh o) 7 (fun le52 => zoX (F_XReader_need sh mm50 o 44) (T_XReader_need sh mm50 o 44) (fun p53 => zoS (sh x0_) 10 (fun le55 => zoS (sh x0_) 10 (fun le57 => zoL ((3 * (p53.1 x0_ 0)) * (p53.1 x0_ 0)) (fun x58 => zoS (sh o) 7 (fun le60 => zoX (F_XReader_numbers sh p53 o 18 x58 x58 0 255 0) (T_XReader_numbers sh p53 o 18 x58 x58 0 255 0) (fun p61 => zoS (sh o) 7 (fun le63 => Option.bind ((p61.2).2.2 o 2) (fun a64 => zoS (sh x0_) 10 (fun le66 => Option.bind (F_XTexture_fill sh (p61.2) x0_ a64) (fun p67 => none))))))))))))) else zoS (sh x0_) 10 (fun le29 => zoL (mI (p26.2) x0_ 2 0) (fun mm30 => zoS (sh o) 7 (fun le32 => zoX (F_XReader_need sh mm30 o 44) (T_XReader_need sh mm30 o 44) (fun p33 => zoS (sh x0_) 10 (fun le35 => zoS (sh x0_) 10 (fun le37 => zoL ((3 * (p33.1 x0_ 0)) * (p33.1 x0_ 0)) (fun x38 => zoS (sh o) 7 (fun le40 => zoX (F_XReader_numbers sh p33 o 18 x38 x38 0 255 0) (T_XReader_numbers sh p33 o 18 x38 x38 0 255 0) (fun p41 => zoS (sh o) 7 (fun le43 => Option.bind ((p41.2).2.2 o 2) (fun a44 => zoS (sh x0_) 10 (fun le46 => Option.bind (F_XTexture_fill sh (p41.2) x0_ a44) (fun p47 => none)))))))))))))))))))))))) else zoS (sh o) 7 (fun le69 => zoS (sh o) 7 (fun le71 => T_XReader_refuse sh mm6 o 2 (mm6.1 o 6))))))))))
set_option maxHeartbeats 4000000 in
set_option maxRecDepth 100000 in
theorem kT_XReader_readTexture (l : Launch) (D : va_G) (tA : Nat → ClassId) (b : Nat) (sh : zSh) (n : Nat) (hl : l.stackTraces = false) {mm : zMem} {o : Nat} {x0_ : Nat} {r : zMem} (h : T_XReader_readTexture sh mm o x0_ = some r) : zMT l D tA b zy_XReader_readTexture zb_XReader_readTexture 3 none 9 166 1 6 [.ref (b + o), .ref (b + x0_)] (zW tA b sh mm) n "java/lang/IllegalArgumentException" (zW tA b sh r) (n + 1) := by
  unfold T_XReader_readTexture at h
  refine zMT_of (own := "OrreryBox$Reader") (plainFor_of_name (by decide)) rfl (Nat.le_of_ble_eq_true rfl) (fun p e s m below meth c F hno hH => ?_)
  refine zr_aload_n F zd_XReader_readTexture_0 rfl ?_
  refine zr_aload_n F zd_XReader_readTexture_1 rfl ?_
  refine zr_ldcS F 15 "side" zd_XReader_readTexture_2 (by decide +kernel) ?_
  refine zr_iconstv (v := 1) F zd_XReader_readTexture_4 (by decide) ?_
  refine zr_bipushv (v := 32) F zd_XReader_readTexture_5 (by decide) ?_
  obtain ⟨le2, hs1, h⟩ := zoS_s h
  cases ep3 : F_XReader_number sh mm o 15 1 32 with
  | none =>
    rw [ep3] at h
    dsimp only [zoX] at h
    exact zr_thrV F hno (kT_XReader_number l D tA b sh _ hl h) zd_XReader_readTexture_7 (zW_o hs1 (by decide)) rfl zs_XReader_138 rfl zq_XReader_number rfl rfl ⟨(Nat.le_of_ble_eq_true rfl), (Nat.le_of_ble_eq_true rfl)⟩ (Nat.le_of_ble_eq_true rfl) ⟨(Nat.le_of_ble_eq_true rfl), (Nat.le_of_ble_eq_true rfl)⟩ ⟨(Nat.le_of_ble_eq_true rfl), (Nat.le_of_ble_eq_true rfl)⟩
  | some p3 =>
    rw [ep3] at h
    dsimp only [zoX] at h
    refine zr_callV1 F (k_XReader_number l D tA b sh _ ep3) zd_XReader_readTexture_7 (zW_o hs1 (by decide)) rfl zs_XReader_138 rfl zq_XReader_number rfl rfl ⟨(Nat.le_of_ble_eq_true rfl), (Nat.le_of_ble_eq_true rfl)⟩ (Nat.le_of_ble_eq_true rfl) ⟨(Nat.le_of_ble_eq_true rfl), (Nat.le_of_ble_eq_true rfl)⟩ ?_
    obtain ⟨le5, hs4, h⟩ := zoS_s h
    refine zr_put F 10 0 zd_XReader_readTexture_10 (zW_o hs4 (by decide)) rfl (by decide) zw_149 rfl rfl rfl rfl (by exact (Nat.le_of_ble_eq_true rfl)) ?_
    obtain ⟨mm6, emm6, h⟩ := zoL_s h
    refine zr_norm (zW tA b sh mm6) _ (by rw [emm6]; exact zW_pI (v := (p3.1)) hs4 (by decide) (zf_I_10_0 b _ _ _)) rfl ?_
    refine zr_pcn 13 rfl ?_
    refine zr_aload_n F zd_XReader_readTexture_13 rfl ?_
    obtain ⟨le8, hs7, h⟩ := zoS_s h
    refine zr_get F 10 0 zd_XReader_readTexture_14 (zW_o hs7 (by decide)) rfl (by decide) zw_149 rfl (by rfl) ?_
    refine zr_aload_n F zd_XReader_readTexture_17 rfl ?_
    obtain ⟨le10, hs9, h⟩ := zoS_s h
    refine zr_get F 10 0 zd_XReader_readTexture_18 (zW_o hs9 (by decide)) rfl (by decide) zw_149 rfl (by rfl) ?_
    refine zr_iconstv (v := 1) F zd_XReader_readTexture_21 (by decide) ?_
    refine zr_isub F zd_XReader_readTexture_22 ?_
    refine zr_iand F zd_XReader_readTexture_23 ?_
    refine zr_if_eq F 36 zd_XReader_readTexture_24 (by decide) (fun hb11 => ?_) (fun hb11 => ?_)
    ·
      replace h := (if_pos hb11).symm.trans h
      refine zr_pcn 36 rfl ?_
      refine zr_aload_n F zd_XReader_readTexture_36 rfl ?_
      refine zr_bipushv (v := 44) F zd_XReader_readTexture_37 (by decide) ?_
      obtain ⟨le13, hs12, h⟩ := zoS_s h
      cases ep14 : F_XReader_need sh mm6 o 44 with
      | none =>
        rw [ep14] at h
        dsimp only [zoX] at h
        exact zr_thrV F hno (kT_XReader_need l D tA b sh _ hl h) zd_XReader_readTexture_39 (zW_o hs12 (by decide)) rfl zs_XReader_45 rfl zq_XReader_need rfl rfl ⟨(Nat.le_of_ble_eq_true rfl), (Nat.le_of_ble_eq_true rfl)⟩ (Nat.le_of_ble_eq_true rfl) ⟨(Nat.le_of_ble_eq_true rfl), (Nat.le_of_ble_eq_true rfl)⟩ ⟨(Nat.le_of_ble_eq_true rfl), (Nat.le_of_ble_eq_true rfl)⟩
      | some p14 =>
        rw [ep14] at h
        dsimp only [zoX] at h
        refine zr_callV0 F (k_XReader_need l D tA b sh _ ep14) zd_XReader_readTexture_39 (zW_o hs12 (by decide)) rfl zs_XReader_45 rfl zq_XReader_need rfl rfl ⟨(Nat.le_of_ble_eq_true rfl), (Nat.le_of_ble_eq_true rfl)⟩ (Nat.le_of_ble_eq_true rfl) ⟨(Nat.le_of_ble_eq_true rfl), (Nat.le_of_ble_eq_true rfl)⟩ ?_
        refine zr_aload_n F zd_XReader_readTexture_42 rfl ?_
        refine zr_aload_n F zd_XReader_readTexture_43 rfl ?_
        refine zr_ldcS F 16 "wrap" zd_XReader_readTexture_44 (by decide +kernel) ?_
        refine zr_iconstv (v := 0) F zd_XReader_readTexture_46 (by decide) ?_
        refine zr_iconstv (v := 2) F zd_XReader_readTexture_47 (by decide) ?_
        refine zr_pcn 48 rfl ?_
        obtain ⟨le16, hs15, h⟩ := zoS_s h
        cases ep17 : F_XReader_number sh p14 o 16 0 2 with
        | none =>
          rw [ep17] at h
          dsimp only [zoX] at h
          exact zr_thrV F hno (kT_XReader_number l D tA b sh _ hl h) zd_XReader_readTexture_48 (zW_o hs15 (by decide)) rfl zs_XReader_138 rfl zq_XReader_number rfl rfl ⟨(Nat.le_of_ble_eq_true rfl), (Nat.le_of_ble_eq_true rfl)⟩ (Nat.le_of_ble_eq_true rfl) ⟨(Nat.le_of_ble_eq_true rfl), (Nat.le_of_ble_eq_true rfl)⟩ ⟨(Nat.le_of_ble_eq_true rfl), (Nat.le_of_ble_eq_true rfl)⟩
        | some p17 =>
          rw [ep17] at h
          dsimp only [zoX] at h
          refine zr_callV1 F (k_XReader_number l D tA b sh _ ep17) zd_XReader_readTexture_48 (zW_o hs15 (by decide)) rfl zs_XReader_138 rfl zq_XReader_number rfl rfl ⟨(Nat.le_of_ble_eq_true rfl), (Nat.le_of_ble_eq_true rfl)⟩ (Nat.le_of_ble_eq_true rfl) ⟨(Nat.le_of_ble_eq_true rfl), (Nat.le_of_ble_eq_true rfl)⟩ ?_
          obtain ⟨le19, hs18, h⟩ := zoS_s h
          refine zr_put F 10 1 zd_XReader_readTexture_51 (zW_o hs18 (by decide)) rfl (by decide) zw_150 rfl rfl rfl rfl (by exact (Nat.le_of_ble_eq_true rfl)) ?_
          obtain ⟨mm20, emm20, h⟩ := zoL_s h
          refine zr_norm (zW tA b sh mm20) _ (by rw [emm20]; exact zW_pI (v := (p17.1)) hs18 (by decide) (zf_I_10_1 b _ _ _)) rfl ?_
          refine zr_aload_n F zd_XReader_readTexture_54 rfl ?_
          refine zr_bipushv (v := 44) F zd_XReader_readTexture_55 (by decide) ?_
          obtain ⟨le22, hs21, h⟩ := zoS_s h
          cases ep23 : F_XReader_need sh mm20 o 44 with
          | none =>
            rw [ep23] at h
            dsimp only [zoX] at h
            exact zr_thrV F hno (kT_XReader_need l D tA b sh _ hl h) zd_XReader_readTexture_57 (zW_o hs21 (by decide)) rfl zs_XReader_45 rfl zq_XReader_need rfl rfl ⟨(Nat.le_of_ble_eq_true rfl), (Nat.le_of_ble_eq_true rfl)⟩ (Nat.le_of_ble_eq_true rfl) ⟨(Nat.le_of_ble_eq_true rfl), (Nat.le_of_ble_eq_true rfl)⟩ ⟨(Nat.le_of_ble_eq_true rfl), (Nat.le_of_ble_eq_true rfl)⟩
          | some p23 =>
            rw [ep23] at h
            dsimp only [zoX] at h
            refine zr_callV0 F (k_XReader_need l D tA b sh _ ep23) zd_XReader_readTexture_57 (zW_o hs21 (by decide)) rfl zs_XReader_45 rfl zq_XReader_need rfl rfl ⟨(Nat.le_of_ble_eq_true rfl), (Nat.le_of_ble_eq_true rfl)⟩ (Nat.le_of_ble_eq_true rfl) ⟨(Nat.le_of_ble_eq_true rfl), (Nat.le_of_ble_eq_true rfl)⟩ ?_
            refine zr_aload_n F zd_XReader_readTexture_60 rfl ?_
            refine zr_aload_n F zd_XReader_readTexture_61 rfl ?_
            refine zr_ldcS F 17 "soft" zd_XReader_readTexture_62 (by decide +kernel) ?_
            refine zr_pcn 64 rfl ?_
            refine zr_iconstv (v := 0) F zd_XReader_readTexture_64 (by decide) ?_
            refine zr_iconstv (v := 1) F zd_XReader_readTexture_65 (by decide) ?_
            obtain ⟨le25, hs24, h⟩ := zoS_s h
            cases ep26 : F_XReader_number sh p23 o 17 0 1 with
            | none =>
              rw [ep26] at h
              dsimp only [zoX] at h
              exact zr_thrV F hno (kT_XReader_number l D tA b sh _ hl h) zd_XReader_readTexture_66 (zW_o hs24 (by decide)) rfl zs_XReader_138 rfl zq_XReader_number rfl rfl ⟨(Nat.le_of_ble_eq_true rfl), (Nat.le_of_ble_eq_true rfl)⟩ (Nat.le_of_ble_eq_true rfl) ⟨(Nat.le_of_ble_eq_true rfl), (Nat.le_of_ble_eq_true rfl)⟩ ⟨(Nat.le_of_ble_eq_true rfl), (Nat.le_of_ble_eq_true rfl)⟩
            | some p26 =>
              rw [ep26] at h
              dsimp only [zoX] at h
              refine zr_callV1 F (k_XReader_number l D tA b sh _ ep26) zd_XReader_readTexture_66 (zW_o hs24 (by decide)) rfl zs_XReader_138 rfl zq_XReader_number rfl rfl ⟨(Nat.le_of_ble_eq_true rfl), (Nat.le_of_ble_eq_true rfl)⟩ (Nat.le_of_ble_eq_true rfl) ⟨(Nat.le_of_ble_eq_true rfl), (Nat.le_of_ble_eq_true rfl)⟩ ?_
              refine zr_iconstv (v := 1) F zd_XReader_readTexture_69 (by decide) ?_
              refine zr_icmp_ne F 77 zd_XReader_readTexture_70 (by decide) (fun hb27 => ?_) (fun hb27 => ?_)
              ·
                replace h := (if_neg hb27).symm.trans h
                refine zr_iconstv (v := 0) F zd_XReader_readTexture_77 (by decide) ?_
                obtain ⟨le29, hs28, h⟩ := zoS_s h
                refine zr_put F 10 2 zd_XReader_readTexture_78 (zW_o hs28 (by decide)) rfl (by decide) zw_152 rfl rfl rfl rfl (by exact (Nat.le_of_ble_eq_true rfl)) ?_
                obtain ⟨mm30, emm30, h⟩ := zoL_s h
                refine zr_norm (zW tA b sh mm30) _ (by rw [emm30]; exact zW_pI (v := 0) hs28 (by decide) (zf_I_10_2 b _ _ _)) rfl ?_
                refine zr_aload_n F zd_XReader_readTexture_81 rfl ?_
                refine zr_pcn 82 rfl ?_
                refine zr_bipushv (v := 44) F zd_XReader_readTexture_82 (by decide) ?_
                obtain ⟨le32, hs31, h⟩ := zoS_s h
                cases ep33 : F_XReader_need sh mm30 o 44 with
                | none =>
                  rw [ep33] at h
                  dsimp only [zoX] at h
                  exact zr_thrV F hno (kT_XReader_need l D tA b sh _ hl h) zd_XReader_readTexture_84 (zW_o hs31 (by decide)) rfl zs_XReader_45 rfl zq_XReader_need rfl rfl ⟨(Nat.le_of_ble_eq_true rfl), (Nat.le_of_ble_eq_true rfl)⟩ (Nat.le_of_ble_eq_true rfl) ⟨(Nat.le_of_ble_eq_true rfl), (Nat.le_of_ble_eq_true rfl)⟩ ⟨(Nat.le_of_ble_eq_true rfl), (Nat.le_of_ble_eq_true rfl)⟩
                | some p33 =>
                  rw [ep33] at h
                  dsimp only [zoX] at h
                  refine zr_callV0 F (k_XReader_need l D tA b sh _ ep33) zd_XReader_readTexture_84 (zW_o hs31 (by decide)) rfl zs_XReader_45 rfl zq_XReader_need rfl rfl ⟨(Nat.le_of_ble_eq_true rfl), (Nat.le_of_ble_eq_true rfl)⟩ (Nat.le_of_ble_eq_true rfl) ⟨(Nat.le_of_ble_eq_true rfl), (Nat.le_of_ble_eq_true rfl)⟩ ?_
                  refine zr_iconstv (v := 3) F zd_XReader_readTexture_87 (by decide) ?_
                  refine zr_aload_n F zd_XReader_readTexture_88 rfl ?_
                  obtain ⟨le35, hs34, h⟩ := zoS_s h
                  refine zr_get F 10 0 zd_XReader_readTexture_89 (zW_o hs34 (by decide)) rfl (by decide) zw_149 rfl (by rfl) ?_
                  refine zr_imul F zd_XReader_readTexture_92 ?_
                  refine zr_aload_n F zd_XReader_readTexture_93 rfl ?_
                  obtain ⟨le37, hs36, h⟩ := zoS_s h
                  refine zr_get F 10 0 zd_XReader_readTexture_94 (zW_o hs36 (by decide)) rfl (by decide) zw_149 rfl (by rfl) ?_
                  refine zr_pcn 97 rfl ?_
                  refine zr_imul F zd_XReader_readTexture_97 ?_
                  obtain ⟨x38, ex38, h⟩ := zoL_s h
                  rw [← ex38]
                  refine zr_istore_n F zd_XReader_readTexture_98 (by decide) ?_
                  refine zr_aload_n F zd_XReader_readTexture_99 rfl ?_
                  refine zr_ldcS F 18 "texels" zd_XReader_readTexture_100 (by decide +kernel) ?_
                  refine zr_iload_n F zd_XReader_readTexture_102 rfl ?_
                  refine zr_iload_n F zd_XReader_readTexture_103 rfl ?_
                  refine zr_iconstv (v := 0) F zd_XReader_readTexture_104 (by decide) ?_
                  refine zr_sipushv (v := 255) F zd_XReader_readTexture_105 (by decide) ?_
                  refine zr_pcn 108 rfl ?_
                  refine zr_iconstv (v := 0) F zd_XReader_readTexture_108 (by decide) ?_
                  obtain ⟨le40, hs39, h⟩ := zoS_s h
                  cases ep41 : F_XReader_numbers sh p33 o 18 x38 x38 0 255 0 with
                  | none =>
                    rw [ep41] at h
                    dsimp only [zoX] at h
                    exact zr_thrV F hno (kT_XReader_numbers l D tA b sh _ hl h) zd_XReader_readTexture_109 (zW_o hs39 (by decide)) rfl zs_XReader_160 rfl zq_XReader_numbers rfl rfl ⟨(Nat.le_of_ble_eq_true rfl), (Nat.le_of_ble_eq_true rfl)⟩ (Nat.le_of_ble_eq_true rfl) ⟨(Nat.le_of_ble_eq_true rfl), (Nat.le_of_ble_eq_true rfl)⟩ ⟨(Nat.le_of_ble_eq_true rfl), (Nat.le_of_ble_eq_true rfl)⟩
                  | some p41 =>
                    rw [ep41] at h
                    dsimp only [zoX] at h
                    refine zr_callV1 F (k_XReader_numbers l D tA b sh _ ep41) zd_XReader_readTexture_109 (zW_o hs39 (by decide)) rfl zs_XReader_160 rfl zq_XReader_numbers rfl rfl ⟨(Nat.le_of_ble_eq_true rfl), (Nat.le_of_ble_eq_true rfl)⟩ (Nat.le_of_ble_eq_true rfl) ⟨(Nat.le_of_ble_eq_true rfl), (Nat.le_of_ble_eq_true rfl)⟩ ?_
                    refine zr_pop F zd_XReader_readTexture_112 rfl ?_
                    refine zr_aload_n F zd_XReader_readTexture_113 rfl ?_
                    refine zr_aload_n F zd_XReader_readTexture_114 rfl ?_
                    obtain ⟨le43, hs42, h⟩ := zoS_s h
                    obtain ⟨a44, ea44, h⟩ := zoB_s h
                    refine zr_get F 7 2 zd_XReader_readTexture_115 (zW_o hs42 (by decide)) rfl (by decide) zw_50 rfl (by rfl) ?_
                    refine zr_tor ea44 ?_
                    obtain ⟨le46, hs45, h⟩ := zoS_s h
                    obtain ⟨p47, ep47, h⟩ := zoB_s h
                    refine zr_callV0 F (k_XTexture_fill l D tA b sh _ ep47) zd_XReader_readTexture_118 (zW_o hs45 (by decide)) rfl zs_XReader_164 rfl zq_XTexture_fill rfl rfl ⟨(Nat.le_of_ble_eq_true rfl), (Nat.le_of_ble_eq_true rfl)⟩ (Nat.le_of_ble_eq_true rfl) ⟨(Nat.le_of_ble_eq_true rfl), (Nat.le_of_ble_eq_true rfl)⟩ ?_
                    cases h
              ·
                replace h := (if_pos hb27).symm.trans h
                refine zr_pcn 73 rfl ?_
                refine zr_iconstv (v := 1) F zd_XReader_readTexture_73 (by decide) ?_
                refine zr_goto F 78 zd_XReader_readTexture_74 (by decide) ?_
                obtain ⟨le49, hs48, h⟩ := zoS_s h
                refine zr_put F 10 2 zd_XReader_readTexture_78 (zW_o hs48 (by decide)) rfl (by decide) zw_152 rfl rfl rfl rfl (by exact (Nat.le_of_ble_eq_true rfl)) ?_
                obtain ⟨mm50, emm50, h⟩ := zoL_s h
                refine zr_norm (zW tA b sh mm50) _ (by rw [emm50]; exact zW_pI (v := 1) hs48 (by decide) (zf_I_10_2 b _ _ _)) rfl ?_
                refine zr_aload_n F zd_XReader_readTexture_81 rfl ?_
                refine zr_bipushv (v := 44) F zd_XReader_readTexture_82 (by decide) ?_
                obtain ⟨le52, hs51, h⟩ := zoS_s h
                cases ep53 : F_XReader_need sh mm50 o 44 with
                | none =>
                  rw [ep53] at h
                  dsimp only [zoX] at h
                  exact zr_thrV F hno (kT_XReader_need l D tA b sh _ hl h) zd_XReader_readTexture_84 (zW_o hs51 (by decide)) rfl zs_XReader_45 rfl zq_XReader_need rfl rfl ⟨(Nat.le_of_ble_eq_true rfl), (Nat.le_of_ble_eq_true rfl)⟩ (Nat.le_of_ble_eq_true rfl) ⟨(Nat.le_of_ble_eq_true rfl), (Nat.le_of_ble_eq_true rfl)⟩ ⟨(Nat.le_of_ble_eq_true rfl), (Nat.le_of_ble_eq_true rfl)⟩
                | some p53 =>
                  rw [ep53] at h
                  dsimp only [zoX] at h
                  refine zr_callV0 F (k_XReader_need l D tA b sh _ ep53) zd_XReader_readTexture_84 (zW_o hs51 (by decide)) rfl zs_XReader_45 rfl zq_XReader_need rfl rfl ⟨(Nat.le_of_ble_eq_true rfl), (Nat.le_of_ble_eq_true rfl)⟩ (Nat.le_of_ble_eq_true rfl) ⟨(Nat.le_of_ble_eq_true rfl), (Nat.le_of_ble_eq_true rfl)⟩ ?_
                  refine zr_iconstv (v := 3) F zd_XReader_readTexture_87 (by decide) ?_
                  refine zr_aload_n F zd_XReader_readTexture_88 rfl ?_
                  refine zr_pcn 89 rfl ?_
                  obtain ⟨le55, hs54, h⟩ := zoS_s h
                  refine zr_get F 10 0 zd_XReader_readTexture_89 (zW_o hs54 (by decide)) rfl (by decide) zw_149 rfl (by rfl) ?_
                  refine zr_imul F zd_XReader_readTexture_92 ?_
                  refine zr_aload_n F zd_XReader_readTexture_93 rfl ?_
                  obtain ⟨le57, hs56, h⟩ := zoS_s h
                  refine zr_get F 10 0 zd_XReader_readTexture_94 (zW_o hs56 (by decide)) rfl (by decide) zw_149 rfl (by rfl) ?_
                  refine zr_imul F zd_XReader_readTexture_97 ?_
                  obtain ⟨x58, ex58, h⟩ := zoL_s h
                  rw [← ex58]
                  refine zr_istore_n F zd_XReader_readTexture_98 (by decide) ?_
                  refine zr_aload_n F zd_XReader_readTexture_99 rfl ?_
                  refine zr_ldcS F 18 "texels" zd_XReader_readTexture_100 (by decide +kernel) ?_
                  refine zr_pcn 102 rfl ?_
                  refine zr_iload_n F zd_XReader_readTexture_102 rfl ?_
                  refine zr_iload_n F zd_XReader_readTexture_103 rfl ?_
                  refine zr_iconstv (v := 0) F zd_XReader_readTexture_104 (by decide) ?_
                  refine zr_sipushv (v := 255) F zd_XReader_readTexture_105 (by decide) ?_
                  refine zr_iconstv (v := 0) F zd_XReader_readTexture_108 (by decide) ?_
                  obtain ⟨le60, hs59, h⟩ := zoS_s h
                  cases ep61 : F_XReader_numbers sh p53 o 18 x58 x58 0 255 0 with
                  | none =>
                    rw [ep61] at h
                    dsimp only [zoX] at h
                    exact zr_thrV F hno (kT_XReader_numbers l D tA b sh _ hl h) zd_XReader_readTexture_109 (zW_o hs59 (by decide)) rfl zs_XReader_160 rfl zq_XReader_numbers rfl rfl ⟨(Nat.le_of_ble_eq_true rfl), (Nat.le_of_ble_eq_true rfl)⟩ (Nat.le_of_ble_eq_true rfl) ⟨(Nat.le_of_ble_eq_true rfl), (Nat.le_of_ble_eq_true rfl)⟩ ⟨(Nat.le_of_ble_eq_true rfl), (Nat.le_of_ble_eq_true rfl)⟩
                  | some p61 =>
                    rw [ep61] at h
                    dsimp only [zoX] at h
                    refine zr_callV1 F (k_XReader_numbers l D tA b sh _ ep61) zd_XReader_readTexture_109 (zW_o hs59 (by decide)) rfl zs_XReader_160 rfl zq_XReader_numbers rfl rfl ⟨(Nat.le_of_ble_eq_true rfl), (Nat.le_of_ble_eq_true rfl)⟩ (Nat.le_of_ble_eq_true rfl) ⟨(Nat.le_of_ble_eq_true rfl), (Nat.le_of_ble_eq_true rfl)⟩ ?_
                    refine zr_pop F zd_XReader_readTexture_112 rfl ?_
                    refine zr_aload_n F zd_XReader_readTexture_113 rfl ?_
                    refine zr_pcn 114 rfl ?_
                    refine zr_aload_n F zd_XReader_readTexture_114 rfl ?_
                    obtain ⟨le63, hs62, h⟩ := zoS_s h
                    obtain ⟨a64, ea64, h⟩ := zoB_s h
                    refine zr_get F 7 2 zd_XReader_readTexture_115 (zW_o hs62 (by decide)) rfl (by decide) zw_50 rfl (by rfl) ?_
                    refine zr_tor ea64 ?_
                    obtain ⟨le66, hs65, h⟩ := zoS_s h
                    obtain ⟨p67, ep67, h⟩ := zoB_s h
                    refine zr_callV0 F (k_XTexture_fill l D tA b sh _ ep67) zd_XReader_readTexture_118 (zW_o hs65 (by decide)) rfl zs_XReader_164 rfl zq_XTexture_fill rfl rfl ⟨(Nat.le_of_ble_eq_true rfl), (Nat.le_of_ble_eq_true rfl)⟩ (Nat.le_of_ble_eq_true rfl) ⟨(Nat.le_of_ble_eq_true rfl), (Nat.le_of_ble_eq_true rfl)⟩ ?_
                    cases h
    ·
      replace h := (if_neg hb11).symm.trans h
      refine zr_aload_n F zd_XReader_readTexture_27 rfl ?_
      refine zr_iconstv (v := 2) F zd_XReader_readTexture_28 (by decide) ?_
      refine zr_aload_n F zd_XReader_readTexture_29 rfl ?_
      obtain ⟨le69, hs68, h⟩ := zoS_s h
      refine zr_get F 7 6 zd_XReader_readTexture_30 (zW_o hs68 (by decide)) rfl (by decide) zw_54 rfl (by rfl) ?_
      refine zr_pcn 33 rfl ?_
      obtain ⟨le71, hs70, h⟩ := zoS_s h
      exact zr_thrV F hno (kT_XReader_refuse l D tA b sh _ hl h) zd_XReader_readTexture_33 (zW_o hs70 (by decide)) rfl zs_XReader_77 rfl zq_XReader_refuse rfl rfl ⟨(Nat.le_of_ble_eq_true rfl), (Nat.le_of_ble_eq_true rfl)⟩ (Nat.le_of_ble_eq_true rfl) ⟨(Nat.le_of_ble_eq_true rfl), (Nat.le_of_ble_eq_true rfl)⟩ ⟨(Nat.le_of_ble_eq_true rfl), (Nat.le_of_ble_eq_true rfl)⟩
