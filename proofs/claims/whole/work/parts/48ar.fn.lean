abbrev zb_XReader_readTrack : ByteArray := prog_8_method_9_code
def zy_XReader_readTrack : MethodName := ⟨"OrreryBox$Reader", "readTrack", "(LOrreryBox$Track;)V"⟩
theorem zc_XReader_readTrack : Cond.code zy_XReader_readTrack zb_XReader_readTrack 4 none ∈ gw := gw_t 1271 (by decide +kernel) rfl
theorem zq_XReader_readTrack : zy_XReader_readTrack.cls ≠ "java/lang/invoke/MethodHandle" ∧ zy_XReader_readTrack.cls ≠ "java/lang/invoke/VarHandle" ∧ (parseMethodDescriptor zy_XReader_readTrack.desc).map (fun d => d.parameters.length) = some 1 := by decide +kernel
theorem zd_XReader_readTrack_0 : decode zb_XReader_readTrack 0 = .ok (.aload_n 1, 1) := by decide +kernel
theorem zd_XReader_readTrack_1 : decode zb_XReader_readTrack 1 = .ok (.aload_n 0, 1) := by decide +kernel
theorem zd_XReader_readTrack_2 : decode zb_XReader_readTrack 2 = .ok (.ldc 236, 2) := by decide +kernel
theorem zd_XReader_readTrack_4 : decode zb_XReader_readTrack 4 = .ok (.iconst 0, 1) := by decide +kernel
theorem zd_XReader_readTrack_5 : decode zb_XReader_readTrack 5 = .ok (.aload_n 0, 1) := by decide +kernel
theorem zd_XReader_readTrack_6 : decode zb_XReader_readTrack 6 = .ok (.getfield 23, 3) := by decide +kernel
theorem zd_XReader_readTrack_9 : decode zb_XReader_readTrack 9 = .ok (.getfield 133, 3) := by decide +kernel
theorem zd_XReader_readTrack_12 : decode zb_XReader_readTrack 12 = .ok (.iconst 3, 1) := by decide +kernel
theorem zd_XReader_readTrack_13 : decode zb_XReader_readTrack 13 = .ok (.iaload, 1) := by decide +kernel
theorem zd_XReader_readTrack_14 : decode zb_XReader_readTrack 14 = .ok (.iconst 1, 1) := by decide +kernel
theorem zd_XReader_readTrack_15 : decode zb_XReader_readTrack 15 = .ok (.isub, 1) := by decide +kernel
theorem zd_XReader_readTrack_16 : decode zb_XReader_readTrack 16 = .ok (.invokevirtual 138, 3) := by decide +kernel
theorem zd_XReader_readTrack_19 : decode zb_XReader_readTrack 19 = .ok (.putfield 238, 3) := by decide +kernel
theorem zd_XReader_readTrack_22 : decode zb_XReader_readTrack 22 = .ok (.aload_n 0, 1) := by decide +kernel
theorem zd_XReader_readTrack_23 : decode zb_XReader_readTrack 23 = .ok (.bipush 44, 2) := by decide +kernel
theorem zd_XReader_readTrack_25 : decode zb_XReader_readTrack 25 = .ok (.invokevirtual 45, 3) := by decide +kernel
theorem zd_XReader_readTrack_28 : decode zb_XReader_readTrack 28 = .ok (.aload_n 1, 1) := by decide +kernel
theorem zd_XReader_readTrack_29 : decode zb_XReader_readTrack 29 = .ok (.aload_n 0, 1) := by decide +kernel
theorem zd_XReader_readTrack_30 : decode zb_XReader_readTrack 30 = .ok (.ldc 242, 2) := by decide +kernel
theorem zd_XReader_readTrack_32 : decode zb_XReader_readTrack 32 = .ok (.iconst 0, 1) := by decide +kernel
theorem zd_XReader_readTrack_33 : decode zb_XReader_readTrack 33 = .ok (.iconst 2, 1) := by decide +kernel
theorem zd_XReader_readTrack_34 : decode zb_XReader_readTrack 34 = .ok (.invokevirtual 138, 3) := by decide +kernel
theorem zd_XReader_readTrack_37 : decode zb_XReader_readTrack 37 = .ok (.putfield 244, 3) := by decide +kernel
theorem zd_XReader_readTrack_40 : decode zb_XReader_readTrack 40 = .ok (.aload_n 0, 1) := by decide +kernel
theorem zd_XReader_readTrack_41 : decode zb_XReader_readTrack 41 = .ok (.bipush 44, 2) := by decide +kernel
theorem zd_XReader_readTrack_43 : decode zb_XReader_readTrack 43 = .ok (.invokevirtual 45, 3) := by decide +kernel
theorem zd_XReader_readTrack_46 : decode zb_XReader_readTrack 46 = .ok (.aload_n 1, 1) := by decide +kernel
theorem zd_XReader_readTrack_47 : decode zb_XReader_readTrack 47 = .ok (.aload_n 0, 1) := by decide +kernel
theorem zd_XReader_readTrack_48 : decode zb_XReader_readTrack 48 = .ok (.ldc 246, 2) := by decide +kernel
theorem zd_XReader_readTrack_50 : decode zb_XReader_readTrack 50 = .ok (.iconst 0, 1) := by decide +kernel
theorem zd_XReader_readTrack_51 : decode zb_XReader_readTrack 51 = .ok (.iconst 2, 1) := by decide +kernel
theorem zd_XReader_readTrack_52 : decode zb_XReader_readTrack 52 = .ok (.invokevirtual 138, 3) := by decide +kernel
theorem zd_XReader_readTrack_55 : decode zb_XReader_readTrack 55 = .ok (.putfield 248, 3) := by decide +kernel
theorem zd_XReader_readTrack_58 : decode zb_XReader_readTrack 58 = .ok (.aload_n 0, 1) := by decide +kernel
theorem zd_XReader_readTrack_59 : decode zb_XReader_readTrack 59 = .ok (.bipush 44, 2) := by decide +kernel
theorem zd_XReader_readTrack_61 : decode zb_XReader_readTrack 61 = .ok (.invokevirtual 45, 3) := by decide +kernel
theorem zd_XReader_readTrack_64 : decode zb_XReader_readTrack 64 = .ok (.aload_n 1, 1) := by decide +kernel
theorem zd_XReader_readTrack_65 : decode zb_XReader_readTrack 65 = .ok (.aload_n 0, 1) := by decide +kernel
theorem zd_XReader_readTrack_66 : decode zb_XReader_readTrack 66 = .ok (.ldc 250, 2) := by decide +kernel
theorem zd_XReader_readTrack_68 : decode zb_XReader_readTrack 68 = .ok (.bipush 32, 2) := by decide +kernel
theorem zd_XReader_readTrack_70 : decode zb_XReader_readTrack 70 = .ok (.iconst 1, 1) := by decide +kernel
theorem zd_XReader_readTrack_71 : decode zb_XReader_readTrack 71 = .ok (.iconst 0, 1) := by decide +kernel
theorem zd_XReader_readTrack_72 : decode zb_XReader_readTrack 72 = .ok (.ldc 252, 2) := by decide +kernel
theorem zd_XReader_readTrack_74 : decode zb_XReader_readTrack 74 = .ok (.iconst 1, 1) := by decide +kernel
theorem zd_XReader_readTrack_75 : decode zb_XReader_readTrack 75 = .ok (.invokevirtual 160, 3) := by decide +kernel
theorem zd_XReader_readTrack_78 : decode zb_XReader_readTrack 78 = .ok (.putfield 253, 3) := by decide +kernel
theorem zd_XReader_readTrack_81 : decode zb_XReader_readTrack 81 = .ok (.aload_n 0, 1) := by decide +kernel
theorem zd_XReader_readTrack_82 : decode zb_XReader_readTrack 82 = .ok (.getfield 9, 3) := by decide +kernel
theorem zd_XReader_readTrack_85 : decode zb_XReader_readTrack 85 = .ok (.iconst 0, 1) := by decide +kernel
theorem zd_XReader_readTrack_86 : decode zb_XReader_readTrack 86 = .ok (.aload_n 1, 1) := by decide +kernel
theorem zd_XReader_readTrack_87 : decode zb_XReader_readTrack 87 = .ok (.getfield 256, 3) := by decide +kernel
theorem zd_XReader_readTrack_90 : decode zb_XReader_readTrack 90 = .ok (.iconst 0, 1) := by decide +kernel
theorem zd_XReader_readTrack_91 : decode zb_XReader_readTrack 91 = .ok (.aload_n 1, 1) := by decide +kernel
theorem zd_XReader_readTrack_92 : decode zb_XReader_readTrack 92 = .ok (.getfield 253, 3) := by decide +kernel
theorem zd_XReader_readTrack_95 : decode zb_XReader_readTrack 95 = .ok (.invokestatic 169, 3) := by decide +kernel
theorem zd_XReader_readTrack_98 : decode zb_XReader_readTrack 98 = .ok (.aload_n 0, 1) := by decide +kernel
theorem zd_XReader_readTrack_99 : decode zb_XReader_readTrack 99 = .ok (.bipush 44, 2) := by decide +kernel
theorem zd_XReader_readTrack_101 : decode zb_XReader_readTrack 101 = .ok (.invokevirtual 45, 3) := by decide +kernel
theorem zd_XReader_readTrack_104 : decode zb_XReader_readTrack 104 = .ok (.aload_n 1, 1) := by decide +kernel
theorem zd_XReader_readTrack_105 : decode zb_XReader_readTrack 105 = .ok (.getfield 244, 3) := by decide +kernel
theorem zd_XReader_readTrack_108 : decode zb_XReader_readTrack 108 = .ok (.invokestatic 258, 3) := by decide +kernel
theorem zd_XReader_readTrack_111 : decode zb_XReader_readTrack 111 = .ok (.istore_n 2, 1) := by decide +kernel
theorem zd_XReader_readTrack_112 : decode zb_XReader_readTrack 112 = .ok (.iconst 3, 1) := by decide +kernel
theorem zd_XReader_readTrack_113 : decode zb_XReader_readTrack 113 = .ok (.aload_n 1, 1) := by decide +kernel
theorem zd_XReader_readTrack_114 : decode zb_XReader_readTrack 114 = .ok (.getfield 253, 3) := by decide +kernel
theorem zd_XReader_readTrack_117 : decode zb_XReader_readTrack 117 = .ok (.imul, 1) := by decide +kernel
theorem zd_XReader_readTrack_118 : decode zb_XReader_readTrack 118 = .ok (.istore_n 3, 1) := by decide +kernel
theorem zd_XReader_readTrack_119 : decode zb_XReader_readTrack 119 = .ok (.aload_n 0, 1) := by decide +kernel
theorem zd_XReader_readTrack_120 : decode zb_XReader_readTrack 120 = .ok (.ldc_w 262, 3) := by decide +kernel
theorem zd_XReader_readTrack_123 : decode zb_XReader_readTrack 123 = .ok (.iload_n 3, 1) := by decide +kernel
theorem zd_XReader_readTrack_124 : decode zb_XReader_readTrack 124 = .ok (.iload_n 3, 1) := by decide +kernel
theorem zd_XReader_readTrack_125 : decode zb_XReader_readTrack 125 = .ok (.iload_n 2, 1) := by decide +kernel
theorem zd_XReader_readTrack_126 : decode zb_XReader_readTrack 126 = .ok (.ineg, 1) := by decide +kernel
theorem zd_XReader_readTrack_127 : decode zb_XReader_readTrack 127 = .ok (.iload_n 2, 1) := by decide +kernel
theorem zd_XReader_readTrack_128 : decode zb_XReader_readTrack 128 = .ok (.iconst 0, 1) := by decide +kernel
theorem zd_XReader_readTrack_129 : decode zb_XReader_readTrack 129 = .ok (.invokevirtual 160, 3) := by decide +kernel
theorem zd_XReader_readTrack_132 : decode zb_XReader_readTrack 132 = .ok (.pop, 1) := by decide +kernel
theorem zd_XReader_readTrack_133 : decode zb_XReader_readTrack 133 = .ok (.aload_n 0, 1) := by decide +kernel
theorem zd_XReader_readTrack_134 : decode zb_XReader_readTrack 134 = .ok (.getfield 9, 3) := by decide +kernel
theorem zd_XReader_readTrack_137 : decode zb_XReader_readTrack 137 = .ok (.iconst 0, 1) := by decide +kernel
theorem zd_XReader_readTrack_138 : decode zb_XReader_readTrack 138 = .ok (.aload_n 1, 1) := by decide +kernel
theorem zd_XReader_readTrack_139 : decode zb_XReader_readTrack 139 = .ok (.getfield 264, 3) := by decide +kernel
theorem zd_XReader_readTrack_142 : decode zb_XReader_readTrack 142 = .ok (.iconst 0, 1) := by decide +kernel
theorem zd_XReader_readTrack_143 : decode zb_XReader_readTrack 143 = .ok (.iload_n 3, 1) := by decide +kernel
theorem zd_XReader_readTrack_144 : decode zb_XReader_readTrack 144 = .ok (.invokestatic 169, 3) := by decide +kernel
theorem zd_XReader_readTrack_147 : decode zb_XReader_readTrack 147 = .ok (.return_, 1) := by decide +kernel
theorem zw_252 : (Jvm.Cond.fieldLink "OrreryBox$Reader" (238 : Nat) "OrreryBox$Track" "node" "I") ∈ gw := gw_t 252 (by decide +kernel) rfl
theorem zf_I_11_0 (b : Nat) (m : zMem) (k : Nat) (v : Int32) : (zfl b 11 m k).set 0 (.int v) = zfl b 11 (mI m k 0 v) k := by simp [zfl, mI, upd, vp_updL]
theorem zw_254 : (Jvm.Cond.fieldLink "OrreryBox$Reader" (244 : Nat) "OrreryBox$Track" "what" "I") ∈ gw := gw_t 254 (by decide +kernel) rfl
theorem zf_I_11_1 (b : Nat) (m : zMem) (k : Nat) (v : Int32) : (zfl b 11 m k).set 1 (.int v) = zfl b 11 (mI m k 1 v) k := by simp [zfl, mI, upd, vp_updL]
theorem zw_256 : (Jvm.Cond.fieldLink "OrreryBox$Reader" (248 : Nat) "OrreryBox$Track" "how" "I") ∈ gw := gw_t 256 (by decide +kernel) rfl
theorem zf_I_11_2 (b : Nat) (m : zMem) (k : Nat) (v : Int32) : (zfl b 11 m k).set 2 (.int v) = zfl b 11 (mI m k 2 v) k := by simp [zfl, mI, upd, vp_updL]
theorem zw_1276 : (Jvm.Cond.constant "OrreryBox$Reader" (252 : Nat) (1000000 : Int32)) ∈ gw := gw_t 1276 (by decide +kernel) rfl
theorem zw_258 : (Jvm.Cond.fieldLink "OrreryBox$Reader" (253 : Nat) "OrreryBox$Track" "keys" "I") ∈ gw := gw_t 258 (by decide +kernel) rfl
theorem zf_I_11_3 (b : Nat) (m : zMem) (k : Nat) (v : Int32) : (zfl b 11 m k).set 3 (.int v) = zfl b 11 (mI m k 3 v) k := by simp [zfl, mI, upd, vp_updL]
theorem zw_260 : (Jvm.Cond.fieldLink "OrreryBox$Reader" (256 : Nat) "OrreryBox$Track" "times" "[I") ∈ gw := gw_t 260 (by decide +kernel) rfl
theorem zw_1277 : (Jvm.Cond.methodLinkNest "OrreryBox$Reader" (258 : Nat) ({ cls := "OrreryBox", name := "reachOf", desc := "(I)I" } : Jvm.MethodName) "OrreryBox") ∈ gn := gn_t 1277 (by decide +kernel) rfl
theorem zs_XReader_258 : zwSN "OrreryBox$Reader" 258 zy_OB_reachOf "OrreryBox" zb_OB_reachOf 1 (some .int) := ⟨zw_1277, zw_591, zw_1, zc_OB_reachOf⟩
theorem zw_262 : (Jvm.Cond.fieldLink "OrreryBox$Reader" (264 : Nat) "OrreryBox$Track" "values" "[I") ∈ gw := gw_t 262 (by decide +kernel) rfl
def F_XReader_readTrack (sh : zSh) (mm : zMem) (o : Nat) (x0_ : Nat) : Option zMem := zoS (sh o) 7 (fun le2 => Option.bind (mm.2.2 o 7) (fun a3 => zoS (sh a3) 8 (fun le5 => Option.bind (mm.2.2 a3 0) (fun a6 => zoS (sh a6) 100 (fun le8 => if (3 : Int32) < 0 ∨ le8 ≤ (3 : Int32).toNatClampNeg then none else zoS (sh o) 7 (fun le11 => zoL ((mm.1 a6 (3 : Int32).toNatClampNeg) - 1) (fun x12 => Option.bind (F_XReader_number sh mm o 30 0 x12) (fun p13 => zoS (sh x0_) 11 (fun le15 => zoL (mI (p13.2) x0_ 0 (p13.1)) (fun mm16 => zoS (sh o) 7 (fun le18 => Option.bind (F_XReader_need sh mm16 o 44) (fun p19 => zoS (sh o) 7 (fun le21 => Option.bind (F_XReader_number sh p19 o 31 0 2) (fun p22 => zoS (sh x0_) 11 (fun le24 => zoL (mI (p22.2) x0_ 1 (p22.1)) (fun mm25 => zoS (sh o) 7 (fun le27 => Option.bind (F_XReader_need sh mm25 o 44) (fun p28 => zoS (sh o) 7 (fun le30 => Option.bind (F_XReader_number sh p28 o 32 0 2) (fun p31 => zoS (sh x0_) 11 (fun le33 => zoL (mI (p31.2) x0_ 2 (p31.1)) (fun mm34 => zoS (sh o) 7 (fun le36 => Option.bind (F_XReader_need sh mm34 o 44) (fun p37 => zoS (sh o) 7 (fun le39 => Option.bind (F_XReader_numbers sh p37 o 33 32 1 0 1000000 1) (fun p40 => zoS (sh x0_) 11 (fun le42 => zoL (mI (p40.2) x0_ 3 (p40.1)) (fun mm43 => zoS (sh o) 7 (fun le45 => Option.bind (mm43.2.2 o 2) (fun a46 => zoS (sh x0_) 11 (fun le48 => Option.bind (mm43.2.2 x0_ 4) (fun a49 => zoS (sh x0_) 11 (fun le51 => zoL (mm43.1 x0_ 3) (fun x52 => zoS (sh a46) 100 (fun le53 => zoS (sh a49) 100 (fun le55 => if ¬ (0 : Int32) < 0 ∧ ¬ (0 : Int32) < 0 ∧ ¬ (x52 : Int32) < 0 ∧ (0 : Int32).toNatClampNeg + (x52 : Int32).toNatClampNeg ≤ le53 ∧ (0 : Int32).toNatClampNeg + (x52 : Int32).toNatClampNeg ≤ le55 then zoL (mC mm43 a46 a49 (0 : Int32).toNatClampNeg (0 : Int32).toNatClampNeg (x52 : Int32).toNatClampNeg) (fun mm58 => zoS (sh o) 7 (fun le60 => Option.bind (F_XReader_need sh mm58 o 44) (fun p61 => zoS (sh x0_) 11 (fun le63 => zoL (sp_OB_reachOf (p61.1 x0_ 1)) (fun x65 => zoS (sh x0_) 11 (fun le67 => zoL (3 * (p61.1 x0_ 3)) (fun x68 => zoS (sh o) 7 (fun le70 => Option.bind (F_XReader_numbers sh p61 o 34 x68 x68 (-x65) x65 0) (fun p71 => zoS (sh o) 7 (fun le73 => Option.bind ((p71.2).2.2 o 2) (fun a74 => zoS (sh x0_) 11 (fun le76 => Option.bind ((p71.2).2.2 x0_ 5) (fun a77 => zoS (sh a74) 100 (fun le78 => zoS (sh a77) 100 (fun le80 => if ¬ (0 : Int32) < 0 ∧ ¬ (0 : Int32) < 0 ∧ ¬ (x68 : Int32) < 0 ∧ (0 : Int32).toNatClampNeg + (x68 : Int32).toNatClampNeg ≤ le78 ∧ (0 : Int32).toNatClampNeg + (x68 : Int32).toNatClampNeg ≤ le80 then zoL (mC (p71.2) a74 a77 (0 : Int32).toNatClampNeg (0 : Int32).toNatClampNeg (x68 : Int32).toNatClampNeg) (fun mm83 => some mm83) else none))))))))))))))) else none))))))))))))))))))))))))))))))))))))
set_option maxHeartbeats 4000000 in
set_option maxRecDepth 100000 in
theorem k_XReader_readTrack (l : Launch) (D : va_G) (tA : Nat → ClassId) (b : Nat) (sh : zSh) (n : Nat) {mm : zMem} {o : Nat} {x0_ : Nat} {r : zMem} (h : F_XReader_readTrack sh mm o x0_ = some r) : zM l D tA b zy_XReader_readTrack zb_XReader_readTrack 4 none 7 158 0 0 [.ref (b + o), .ref (b + x0_)] (zW tA b sh mm) n (zE none (zW tA b sh r) n) := by
  unfold F_XReader_readTrack at h
  refine zM_of (own := "OrreryBox$Reader") (plainFor_of_name (by decide)) rfl (Nat.le_of_ble_eq_true rfl) (fun p e s m below meth c F hr hin hH => ?_)
  refine zr_aload_n F zd_XReader_readTrack_0 rfl ?_
  refine zr_aload_n F zd_XReader_readTrack_1 rfl ?_
  refine zr_ldcS F 30 "node" zd_XReader_readTrack_2 (by decide +kernel) ?_
  refine zr_iconstv (v := 0) F zd_XReader_readTrack_4 (by decide) ?_
  refine zr_aload_n F zd_XReader_readTrack_5 rfl ?_
  obtain ⟨le2, hs1, h⟩ := zoS_s h
  obtain ⟨a3, ea3, h⟩ := zoB_s h
  refine zr_get F 7 7 zd_XReader_readTrack_6 (zW_o hs1 (by decide)) rfl (by decide) zw_55 rfl (by rfl) ?_
  refine zr_tor ea3 ?_
  obtain ⟨le5, hs4, h⟩ := zoS_s h
  obtain ⟨a6, ea6, h⟩ := zoB_s h
  refine zr_get F 8 0 zd_XReader_readTrack_9 (zW_o hs4 (by decide)) rfl (by decide) zw_284 rfl (by rfl) ?_
  refine zr_tor ea6 ?_
  refine zr_pcn 12 rfl ?_
  refine zr_iconstv (v := 3) F zd_XReader_readTrack_12 (by decide) ?_
  obtain ⟨le8, hs7, h⟩ := zoS_s h
  obtain ⟨hi9, h⟩ := zoI_s h
  refine zr_iald F zd_XReader_readTrack_13 (zW_a0 hs7) hi9 ?_
  refine zr_iconstv (v := 1) F zd_XReader_readTrack_14 (by decide) ?_
  refine zr_isub F zd_XReader_readTrack_15 ?_
  obtain ⟨le11, hs10, h⟩ := zoS_s h
  obtain ⟨x12, ex12, h⟩ := zoL_s h
  rw [← ex12]
  obtain ⟨p13, ep13, h⟩ := zoB_s h
  refine zr_callV1 F (k_XReader_number l D tA b sh _ ep13) zd_XReader_readTrack_16 (zW_o hs10 (by decide)) rfl zs_XReader_138 rfl zq_XReader_number rfl rfl ⟨(Nat.le_of_ble_eq_true rfl), (Nat.le_of_ble_eq_true rfl)⟩ (Nat.le_of_ble_eq_true rfl) ⟨(Nat.le_of_ble_eq_true rfl), (Nat.le_of_ble_eq_true rfl)⟩ ?_
  obtain ⟨le15, hs14, h⟩ := zoS_s h
  refine zr_put F 11 0 zd_XReader_readTrack_19 (zW_o hs14 (by decide)) rfl (by decide) zw_252 rfl rfl rfl rfl (by exact (Nat.le_of_ble_eq_true rfl)) ?_
  obtain ⟨mm16, emm16, h⟩ := zoL_s h
  refine zr_norm (zW tA b sh mm16) _ (by rw [emm16]; exact zW_pI (v := (p13.1)) hs14 (by decide) (zf_I_11_0 b _ _ _)) rfl ?_
  refine zr_aload_n F zd_XReader_readTrack_22 rfl ?_
  refine zr_bipushv (v := 44) F zd_XReader_readTrack_23 (by decide) ?_
  refine zr_pcn 25 rfl ?_
  obtain ⟨le18, hs17, h⟩ := zoS_s h
  obtain ⟨p19, ep19, h⟩ := zoB_s h
  refine zr_callV0 F (k_XReader_need l D tA b sh _ ep19) zd_XReader_readTrack_25 (zW_o hs17 (by decide)) rfl zs_XReader_45 rfl zq_XReader_need rfl rfl ⟨(Nat.le_of_ble_eq_true rfl), (Nat.le_of_ble_eq_true rfl)⟩ (Nat.le_of_ble_eq_true rfl) ⟨(Nat.le_of_ble_eq_true rfl), (Nat.le_of_ble_eq_true rfl)⟩ ?_
  refine zr_aload_n F zd_XReader_readTrack_28 rfl ?_
  refine zr_aload_n F zd_XReader_readTrack_29 rfl ?_
  refine zr_ldcS F 31 "what" zd_XReader_readTrack_30 (by decide +kernel) ?_
  refine zr_iconstv (v := 0) F zd_XReader_readTrack_32 (by decide) ?_
  refine zr_iconstv (v := 2) F zd_XReader_readTrack_33 (by decide) ?_
  obtain ⟨le21, hs20, h⟩ := zoS_s h
  obtain ⟨p22, ep22, h⟩ := zoB_s h
  refine zr_callV1 F (k_XReader_number l D tA b sh _ ep22) zd_XReader_readTrack_34 (zW_o hs20 (by decide)) rfl zs_XReader_138 rfl zq_XReader_number rfl rfl ⟨(Nat.le_of_ble_eq_true rfl), (Nat.le_of_ble_eq_true rfl)⟩ (Nat.le_of_ble_eq_true rfl) ⟨(Nat.le_of_ble_eq_true rfl), (Nat.le_of_ble_eq_true rfl)⟩ ?_
  obtain ⟨le24, hs23, h⟩ := zoS_s h
  refine zr_put F 11 1 zd_XReader_readTrack_37 (zW_o hs23 (by decide)) rfl (by decide) zw_254 rfl rfl rfl rfl (by exact (Nat.le_of_ble_eq_true rfl)) ?_
  obtain ⟨mm25, emm25, h⟩ := zoL_s h
  refine zr_norm (zW tA b sh mm25) _ (by rw [emm25]; exact zW_pI (v := (p22.1)) hs23 (by decide) (zf_I_11_1 b _ _ _)) rfl ?_
  refine zr_pcn 40 rfl ?_
  refine zr_aload_n F zd_XReader_readTrack_40 rfl ?_
  refine zr_bipushv (v := 44) F zd_XReader_readTrack_41 (by decide) ?_
  obtain ⟨le27, hs26, h⟩ := zoS_s h
  obtain ⟨p28, ep28, h⟩ := zoB_s h
  refine zr_callV0 F (k_XReader_need l D tA b sh _ ep28) zd_XReader_readTrack_43 (zW_o hs26 (by decide)) rfl zs_XReader_45 rfl zq_XReader_need rfl rfl ⟨(Nat.le_of_ble_eq_true rfl), (Nat.le_of_ble_eq_true rfl)⟩ (Nat.le_of_ble_eq_true rfl) ⟨(Nat.le_of_ble_eq_true rfl), (Nat.le_of_ble_eq_true rfl)⟩ ?_
  refine zr_aload_n F zd_XReader_readTrack_46 rfl ?_
  refine zr_aload_n F zd_XReader_readTrack_47 rfl ?_
  refine zr_ldcS F 32 "how" zd_XReader_readTrack_48 (by decide +kernel) ?_
  refine zr_iconstv (v := 0) F zd_XReader_readTrack_50 (by decide) ?_
  refine zr_iconstv (v := 2) F zd_XReader_readTrack_51 (by decide) ?_
  refine zr_pcn 52 rfl ?_
  obtain ⟨le30, hs29, h⟩ := zoS_s h
  obtain ⟨p31, ep31, h⟩ := zoB_s h
  refine zr_callV1 F (k_XReader_number l D tA b sh _ ep31) zd_XReader_readTrack_52 (zW_o hs29 (by decide)) rfl zs_XReader_138 rfl zq_XReader_number rfl rfl ⟨(Nat.le_of_ble_eq_true rfl), (Nat.le_of_ble_eq_true rfl)⟩ (Nat.le_of_ble_eq_true rfl) ⟨(Nat.le_of_ble_eq_true rfl), (Nat.le_of_ble_eq_true rfl)⟩ ?_
  obtain ⟨le33, hs32, h⟩ := zoS_s h
  refine zr_put F 11 2 zd_XReader_readTrack_55 (zW_o hs32 (by decide)) rfl (by decide) zw_256 rfl rfl rfl rfl (by exact (Nat.le_of_ble_eq_true rfl)) ?_
  obtain ⟨mm34, emm34, h⟩ := zoL_s h
  refine zr_norm (zW tA b sh mm34) _ (by rw [emm34]; exact zW_pI (v := (p31.1)) hs32 (by decide) (zf_I_11_2 b _ _ _)) rfl ?_
  refine zr_aload_n F zd_XReader_readTrack_58 rfl ?_
  refine zr_bipushv (v := 44) F zd_XReader_readTrack_59 (by decide) ?_
  obtain ⟨le36, hs35, h⟩ := zoS_s h
  obtain ⟨p37, ep37, h⟩ := zoB_s h
  refine zr_callV0 F (k_XReader_need l D tA b sh _ ep37) zd_XReader_readTrack_61 (zW_o hs35 (by decide)) rfl zs_XReader_45 rfl zq_XReader_need rfl rfl ⟨(Nat.le_of_ble_eq_true rfl), (Nat.le_of_ble_eq_true rfl)⟩ (Nat.le_of_ble_eq_true rfl) ⟨(Nat.le_of_ble_eq_true rfl), (Nat.le_of_ble_eq_true rfl)⟩ ?_
  refine zr_aload_n F zd_XReader_readTrack_64 rfl ?_
  refine zr_aload_n F zd_XReader_readTrack_65 rfl ?_
  refine zr_ldcS F 33 "times" zd_XReader_readTrack_66 (by decide +kernel) ?_
  refine zr_pcn 68 rfl ?_
  refine zr_bipushv (v := 32) F zd_XReader_readTrack_68 (by decide) ?_
  refine zr_iconstv (v := 1) F zd_XReader_readTrack_70 (by decide) ?_
  refine zr_iconstv (v := 0) F zd_XReader_readTrack_71 (by decide) ?_
  refine zr_ldc F zd_XReader_readTrack_72 zw_1276 ?_
  refine zr_iconstv (v := 1) F zd_XReader_readTrack_74 (by decide) ?_
  obtain ⟨le39, hs38, h⟩ := zoS_s h
  obtain ⟨p40, ep40, h⟩ := zoB_s h
  refine zr_callV1 F (k_XReader_numbers l D tA b sh _ ep40) zd_XReader_readTrack_75 (zW_o hs38 (by decide)) rfl zs_XReader_160 rfl zq_XReader_numbers rfl rfl ⟨(Nat.le_of_ble_eq_true rfl), (Nat.le_of_ble_eq_true rfl)⟩ (Nat.le_of_ble_eq_true rfl) ⟨(Nat.le_of_ble_eq_true rfl), (Nat.le_of_ble_eq_true rfl)⟩ ?_
  obtain ⟨le42, hs41, h⟩ := zoS_s h
  refine zr_put F 11 3 zd_XReader_readTrack_78 (zW_o hs41 (by decide)) rfl (by decide) zw_258 rfl rfl rfl rfl (by exact (Nat.le_of_ble_eq_true rfl)) ?_
  obtain ⟨mm43, emm43, h⟩ := zoL_s h
  refine zr_norm (zW tA b sh mm43) _ (by rw [emm43]; exact zW_pI (v := (p40.1)) hs41 (by decide) (zf_I_11_3 b _ _ _)) rfl ?_
  refine zr_aload_n F zd_XReader_readTrack_81 rfl ?_
  refine zr_pcn 82 rfl ?_
  obtain ⟨le45, hs44, h⟩ := zoS_s h
  obtain ⟨a46, ea46, h⟩ := zoB_s h
  refine zr_get F 7 2 zd_XReader_readTrack_82 (zW_o hs44 (by decide)) rfl (by decide) zw_50 rfl (by rfl) ?_
  refine zr_tor ea46 ?_
  refine zr_iconstv (v := 0) F zd_XReader_readTrack_85 (by decide) ?_
  refine zr_aload_n F zd_XReader_readTrack_86 rfl ?_
  obtain ⟨le48, hs47, h⟩ := zoS_s h
  obtain ⟨a49, ea49, h⟩ := zoB_s h
  refine zr_get F 11 4 zd_XReader_readTrack_87 (zW_o hs47 (by decide)) rfl (by decide) zw_260 rfl (by rfl) ?_
  refine zr_tor ea49 ?_
  refine zr_iconstv (v := 0) F zd_XReader_readTrack_90 (by decide) ?_
  refine zr_aload_n F zd_XReader_readTrack_91 rfl ?_
  obtain ⟨le51, hs50, h⟩ := zoS_s h
  refine zr_get F 11 3 zd_XReader_readTrack_92 (zW_o hs50 (by decide)) rfl (by decide) zw_258 rfl (by rfl) ?_
  obtain ⟨x52, ex52, h⟩ := zoL_s h
  rw [← ex52]
  obtain ⟨le53, hs54, h⟩ := zoS_s h
  obtain ⟨le55, hs56, h⟩ := zoS_s h
  obtain ⟨hc57, h⟩ := zoT_s h
  obtain ⟨mm58, emm58, h⟩ := zoL_s h
  refine zr_copy F zd_XReader_readTrack_95 zw_1202 zw_724 zw_723 zw_26 (zW_a0 hs54) (zW_a0 hs56) hc57.1 hc57.2.1 hc57.2.2.1 hc57.2.2.2.1 hc57.2.2.2.2 (Nat.le_of_ble_eq_true rfl) (Nat.le_of_ble_eq_true rfl) ?_
  refine zr_norm (zW tA b sh mm58) _ (by rw [emm58]; exact zW_c hs56) rfl ?_
  refine zr_pcn 98 rfl ?_
  refine zr_aload_n F zd_XReader_readTrack_98 rfl ?_
  refine zr_bipushv (v := 44) F zd_XReader_readTrack_99 (by decide) ?_
  obtain ⟨le60, hs59, h⟩ := zoS_s h
  obtain ⟨p61, ep61, h⟩ := zoB_s h
  refine zr_callV0 F (k_XReader_need l D tA b sh _ ep61) zd_XReader_readTrack_101 (zW_o hs59 (by decide)) rfl zs_XReader_45 rfl zq_XReader_need rfl rfl ⟨(Nat.le_of_ble_eq_true rfl), (Nat.le_of_ble_eq_true rfl)⟩ (Nat.le_of_ble_eq_true rfl) ⟨(Nat.le_of_ble_eq_true rfl), (Nat.le_of_ble_eq_true rfl)⟩ ?_
  refine zr_aload_n F zd_XReader_readTrack_104 rfl ?_
  obtain ⟨le63, hs62, h⟩ := zoS_s h
  refine zr_get F 11 1 zd_XReader_readTrack_105 (zW_o hs62 (by decide)) rfl (by decide) zw_254 rfl (by rfl) ?_
  refine zr_callSN1 F (c_OB_reachOf l D tA b _ _ (p61.1 x0_ 1)) zd_XReader_readTrack_108 zs_XReader_258 zq_OB_reachOf rfl rfl ⟨(Nat.le_of_ble_eq_true rfl), (Nat.le_of_ble_eq_true rfl)⟩ (Nat.le_of_ble_eq_true rfl) ⟨(Nat.le_of_ble_eq_true rfl), (Nat.le_of_ble_eq_true rfl)⟩ ?_
  obtain ⟨x65, ex65, h⟩ := zoL_s h
  rw [← ex65]
  refine zr_istore_n F zd_XReader_readTrack_111 (by decide) ?_
  refine zr_iconstv (v := 3) F zd_XReader_readTrack_112 (by decide) ?_
  refine zr_pcn 113 rfl ?_
  refine zr_aload_n F zd_XReader_readTrack_113 rfl ?_
  obtain ⟨le67, hs66, h⟩ := zoS_s h
  refine zr_get F 11 3 zd_XReader_readTrack_114 (zW_o hs66 (by decide)) rfl (by decide) zw_258 rfl (by rfl) ?_
  refine zr_imul F zd_XReader_readTrack_117 ?_
  obtain ⟨x68, ex68, h⟩ := zoL_s h
  rw [← ex68]
  refine zr_istore_n F zd_XReader_readTrack_118 (by decide) ?_
  refine zr_aload_n F zd_XReader_readTrack_119 rfl ?_
  refine zr_ldcSW F 34 "values" zd_XReader_readTrack_120 (by decide +kernel) ?_
  refine zr_iload_n F zd_XReader_readTrack_123 rfl ?_
  refine zr_iload_n F zd_XReader_readTrack_124 rfl ?_
  refine zr_pcn 125 rfl ?_
  refine zr_iload_n F zd_XReader_readTrack_125 rfl ?_
  refine zr_ineg F zd_XReader_readTrack_126 ?_
  refine zr_iload_n F zd_XReader_readTrack_127 rfl ?_
  refine zr_iconstv (v := 0) F zd_XReader_readTrack_128 (by decide) ?_
  obtain ⟨le70, hs69, h⟩ := zoS_s h
  obtain ⟨p71, ep71, h⟩ := zoB_s h
  refine zr_callV1 F (k_XReader_numbers l D tA b sh _ ep71) zd_XReader_readTrack_129 (zW_o hs69 (by decide)) rfl zs_XReader_160 rfl zq_XReader_numbers rfl rfl ⟨(Nat.le_of_ble_eq_true rfl), (Nat.le_of_ble_eq_true rfl)⟩ (Nat.le_of_ble_eq_true rfl) ⟨(Nat.le_of_ble_eq_true rfl), (Nat.le_of_ble_eq_true rfl)⟩ ?_
  refine zr_pop F zd_XReader_readTrack_132 rfl ?_
  refine zr_aload_n F zd_XReader_readTrack_133 rfl ?_
  obtain ⟨le73, hs72, h⟩ := zoS_s h
  obtain ⟨a74, ea74, h⟩ := zoB_s h
  refine zr_get F 7 2 zd_XReader_readTrack_134 (zW_o hs72 (by decide)) rfl (by decide) zw_50 rfl (by rfl) ?_
  refine zr_tor ea74 ?_
  refine zr_pcn 137 rfl ?_
  refine zr_iconstv (v := 0) F zd_XReader_readTrack_137 (by decide) ?_
  refine zr_aload_n F zd_XReader_readTrack_138 rfl ?_
  obtain ⟨le76, hs75, h⟩ := zoS_s h
  obtain ⟨a77, ea77, h⟩ := zoB_s h
  refine zr_get F 11 5 zd_XReader_readTrack_139 (zW_o hs75 (by decide)) rfl (by decide) zw_262 rfl (by rfl) ?_
  refine zr_tor ea77 ?_
  refine zr_iconstv (v := 0) F zd_XReader_readTrack_142 (by decide) ?_
  refine zr_iload_n F zd_XReader_readTrack_143 rfl ?_
  obtain ⟨le78, hs79, h⟩ := zoS_s h
  obtain ⟨le80, hs81, h⟩ := zoS_s h
  obtain ⟨hc82, h⟩ := zoT_s h
  obtain ⟨mm83, emm83, h⟩ := zoL_s h
  refine zr_copy F zd_XReader_readTrack_144 zw_1202 zw_724 zw_723 zw_26 (zW_a0 hs79) (zW_a0 hs81) hc82.1 hc82.2.1 hc82.2.2.1 hc82.2.2.2.1 hc82.2.2.2.2 (Nat.le_of_ble_eq_true rfl) (Nat.le_of_ble_eq_true rfl) ?_
  refine zr_norm (zW tA b sh mm83) _ (by rw [emm83]; exact zW_c hs81) rfl ?_
  obtain rfl := Option.some.inj h
  exact zr_vret F hr zd_XReader_readTrack_147 (Nat.le_of_ble_eq_true rfl) (Nat.le_of_ble_eq_true rfl) ⟨rfl, rfl, rfl⟩
def T_XReader_readTrack (sh : zSh) (mm : zMem) (o : Nat) (x0_ : Nat) : Option zMem := zoS (sh o) 7 (fun le2 => Option.bind (mm.2.2 o 7) (fun a3 => zoS (sh a3) 8 (fun le5 => Option.bind (mm.2.2 a3 0) (fun a6 => zoS (sh a6) 100 (fun le8 => if (3 : Int32) < 0 ∨ le8 ≤ (3 : Int32).toNatClampNeg then none else zoS (sh o) 7 (fun le11 => zoL ((mm.1 a6 (3 : Int32).toNatClampNeg) - 1) (fun x12 => zoX (F_XReader_number sh mm o 30 0 x12) (T_XReader_number sh mm o 30 0 x12) (fun p13 => zoS (sh x0_) 11 (fun le15 => zoL (mI (p13.2) x0_ 0 (p13.1)) (fun mm16 => zoS (sh o) 7 (fun le18 => zoX (F_XReader_need sh mm16 o 44) (T_XReader_need sh mm16 o 44) (fun p19 => zoS (sh o) 7 (fun le21 => zoX (F_XReader_number sh p19 o 31 0 2) (T_XReader_number sh p19 o 31 0 2) (fun p22 => zoS (sh x0_) 11 (fun le24 => zoL (mI (p22.2) x0_ 1 (p22.1)) (fun mm25 => zoS (sh o) 7 (fun le27 => zoX (F_XReader_need sh mm25 o 44) (T_XReader_need sh mm25 o 44) (fun p28 => zoS (sh o) 7 (fun le30 => zoX (F_XReader_number sh p28 o 32 0 2) (T_XReader_number sh p28 o 32 0 2) (fun p31 => zoS (sh x0_) 11 (fun le33 => zoL (mI (p31.2) x0_ 2 (p31.1)) (fun mm34 => zoS (sh o) 7 (fun le36 => zoX (F_XReader_need sh mm34 o 44) (T_XReader_need sh mm34 o 44) (fun p37 => zoS (sh o) 7 (fun le39 => zoX (F_XReader_numbers sh p37 o 33 32 1 0 1000000 1) (T_XReader_numbers sh p37 o 33 32 1 0 1000000 1) (fun p40 => zoS (sh x0_) 11 (fun le42 => zoL (mI (p40.2) x0_ 3 (p40.1)) (fun mm43 => zoS (sh o) 7 (fun le45 => Option.bind (mm43.2.2 o 2) (fun a46 => zoS (sh x0_) 11 (fun le48 => Option.bind (mm43.2.2 x0_ 4) (fun a49 => zoS (sh x0_) 11 (fun le51 => zoL (mm43.1 x0_ 3) (fun x52 => zoS (sh a46) 100 (fun le53 => zoS (sh a49) 100 (fun le55 => if ¬ (0 : Int32) < 0 ∧ ¬ (0 : Int32) < 0 ∧ ¬ (x52 : Int32) < 0 ∧ (0 : Int32).toNatClampNeg + (x52 : Int32).toNatClampNeg ≤ le53 ∧ (0 : Int32).toNatClampNeg + (x52 : Int32).toNatClampNeg ≤ le55 then zoL (mC mm43 a46 a49 (0 : Int32).toNatClampNeg (0 : Int32).toNatClampNeg (x52 : Int32).toNatClampNeg) (fun mm58 => zoS (sh o) 7 (fun le60 => zoX (F_XReader_need sh mm58 o 44) (T_XReader_need sh mm58 o 44) (fun p61 => zoS (sh x0_) 11 (fun le63 => zoL (sp_OB_reachOf (p61.1 x0_ 1)) (fun x65 => zoS (sh x0_) 11 (fun le67 => zoL (3 * (p61.1 x0_ 3)) (fun x68 => zoS (sh o) 7 (fun le70 => zoX (F_XReader_numbers sh p61 o 34 x68 x68 (-x65) x65 0) (T_XReader_numbers sh p61 o 34 x68 x68 (-x65) x65 0) (fun p71 => zoS (sh o) 7 (fun le73 => Option.bind ((p71.2).2.2 o 2) (fun a74 => zoS (sh x0_) 11 (fun le76 => Option.bind ((p71.2).2.2 x0_ 5) (fun a77 => zoS (sh a74) 100 (fun le78 => zoS (sh a77) 100 (fun le80 => if ¬ (0 : Int32) < 0 ∧ ¬ (0 : Int32) < 0 ∧ ¬ (x68 : Int32) < 0 ∧ (0 : Int32).toNatClampNeg + (x68 : Int32).toNatClampNeg ≤ le78 ∧ (0 : Int32).toNatClampNeg + (x68 : Int32).toNatClampNeg ≤ le80 then zoL (mC (p71.2) a74 a77 (0 : Int32).toNatClampNeg (0 : Int32).toNatClampNeg (x68 : Int32).toNatClampNeg) (fun mm83 => none) else none))))))))))))))) else none))))))))))))))))))))))))))))))))))))
set_option maxHeartbeats 4000000 in
set_option maxRecDepth 100000 in
theorem kT_XReader_readTrack (l : Launch) (D : va_G) (tA : Nat → ClassId) (b : Nat) (sh : zSh) (n : Nat) (hl : l.stackTraces = false) {mm : zMem} {o : Nat} {x0_ : Nat} {r : zMem} (h : T_XReader_readTrack sh mm o x0_ = some r) : zMT l D tA b zy_XReader_readTrack zb_XReader_readTrack 4 none 9 166 1 6 [.ref (b + o), .ref (b + x0_)] (zW tA b sh mm) n "java/lang/IllegalArgumentException" (zW tA b sh r) (n + 1) := by
  unfold T_XReader_readTrack at h
  refine zMT_of (own := "OrreryBox$Reader") (plainFor_of_name (by decide)) rfl (Nat.le_of_ble_eq_true rfl) (fun p e s m below meth c F hno hH => ?_)
  refine zr_aload_n F zd_XReader_readTrack_0 rfl ?_
  refine zr_aload_n F zd_XReader_readTrack_1 rfl ?_
  refine zr_ldcS F 30 "node" zd_XReader_readTrack_2 (by decide +kernel) ?_
  refine zr_iconstv (v := 0) F zd_XReader_readTrack_4 (by decide) ?_
  refine zr_aload_n F zd_XReader_readTrack_5 rfl ?_
  obtain ⟨le2, hs1, h⟩ := zoS_s h
  obtain ⟨a3, ea3, h⟩ := zoB_s h
  refine zr_get F 7 7 zd_XReader_readTrack_6 (zW_o hs1 (by decide)) rfl (by decide) zw_55 rfl (by rfl) ?_
  refine zr_tor ea3 ?_
  obtain ⟨le5, hs4, h⟩ := zoS_s h
  obtain ⟨a6, ea6, h⟩ := zoB_s h
  refine zr_get F 8 0 zd_XReader_readTrack_9 (zW_o hs4 (by decide)) rfl (by decide) zw_284 rfl (by rfl) ?_
  refine zr_tor ea6 ?_
  refine zr_pcn 12 rfl ?_
  refine zr_iconstv (v := 3) F zd_XReader_readTrack_12 (by decide) ?_
  obtain ⟨le8, hs7, h⟩ := zoS_s h
  obtain ⟨hi9, h⟩ := zoI_s h
  refine zr_iald F zd_XReader_readTrack_13 (zW_a0 hs7) hi9 ?_
  refine zr_iconstv (v := 1) F zd_XReader_readTrack_14 (by decide) ?_
  refine zr_isub F zd_XReader_readTrack_15 ?_
  obtain ⟨le11, hs10, h⟩ := zoS_s h
  obtain ⟨x12, ex12, h⟩ := zoL_s h
  rw [← ex12]
  cases ep13 : F_XReader_number sh mm o 30 0 x12 with
  | none =>
    rw [ep13] at h
    dsimp only [zoX] at h
    exact zr_thrV F hno (kT_XReader_number l D tA b sh _ hl h) zd_XReader_readTrack_16 (zW_o hs10 (by decide)) rfl zs_XReader_138 rfl zq_XReader_number rfl rfl ⟨(Nat.le_of_ble_eq_true rfl), (Nat.le_of_ble_eq_true rfl)⟩ (Nat.le_of_ble_eq_true rfl) ⟨(Nat.le_of_ble_eq_true rfl), (Nat.le_of_ble_eq_true rfl)⟩ ⟨(Nat.le_of_ble_eq_true rfl), (Nat.le_of_ble_eq_true rfl)⟩
  | some p13 =>
    rw [ep13] at h
    dsimp only [zoX] at h
    refine zr_callV1 F (k_XReader_number l D tA b sh _ ep13) zd_XReader_readTrack_16 (zW_o hs10 (by decide)) rfl zs_XReader_138 rfl zq_XReader_number rfl rfl ⟨(Nat.le_of_ble_eq_true rfl), (Nat.le_of_ble_eq_true rfl)⟩ (Nat.le_of_ble_eq_true rfl) ⟨(Nat.le_of_ble_eq_true rfl), (Nat.le_of_ble_eq_true rfl)⟩ ?_
    obtain ⟨le15, hs14, h⟩ := zoS_s h
    refine zr_put F 11 0 zd_XReader_readTrack_19 (zW_o hs14 (by decide)) rfl (by decide) zw_252 rfl rfl rfl rfl (by exact (Nat.le_of_ble_eq_true rfl)) ?_
    obtain ⟨mm16, emm16, h⟩ := zoL_s h
    refine zr_norm (zW tA b sh mm16) _ (by rw [emm16]; exact zW_pI (v := (p13.1)) hs14 (by decide) (zf_I_11_0 b _ _ _)) rfl ?_
    refine zr_aload_n F zd_XReader_readTrack_22 rfl ?_
    refine zr_bipushv (v := 44) F zd_XReader_readTrack_23 (by decide) ?_
    refine zr_pcn 25 rfl ?_
    obtain ⟨le18, hs17, h⟩ := zoS_s h
    cases ep19 : F_XReader_need sh mm16 o 44 with
    | none =>
      rw [ep19] at h
      dsimp only [zoX] at h
      exact zr_thrV F hno (kT_XReader_need l D tA b sh _ hl h) zd_XReader_readTrack_25 (zW_o hs17 (by decide)) rfl zs_XReader_45 rfl zq_XReader_need rfl rfl ⟨(Nat.le_of_ble_eq_true rfl), (Nat.le_of_ble_eq_true rfl)⟩ (Nat.le_of_ble_eq_true rfl) ⟨(Nat.le_of_ble_eq_true rfl), (Nat.le_of_ble_eq_true rfl)⟩ ⟨(Nat.le_of_ble_eq_true rfl), (Nat.le_of_ble_eq_true rfl)⟩
    | some p19 =>
      rw [ep19] at h
      dsimp only [zoX] at h
      refine zr_callV0 F (k_XReader_need l D tA b sh _ ep19) zd_XReader_readTrack_25 (zW_o hs17 (by decide)) rfl zs_XReader_45 rfl zq_XReader_need rfl rfl ⟨(Nat.le_of_ble_eq_true rfl), (Nat.le_of_ble_eq_true rfl)⟩ (Nat.le_of_ble_eq_true rfl) ⟨(Nat.le_of_ble_eq_true rfl), (Nat.le_of_ble_eq_true rfl)⟩ ?_
      refine zr_aload_n F zd_XReader_readTrack_28 rfl ?_
      refine zr_aload_n F zd_XReader_readTrack_29 rfl ?_
      refine zr_ldcS F 31 "what" zd_XReader_readTrack_30 (by decide +kernel) ?_
      refine zr_iconstv (v := 0) F zd_XReader_readTrack_32 (by decide) ?_
      refine zr_iconstv (v := 2) F zd_XReader_readTrack_33 (by decide) ?_
      obtain ⟨le21, hs20, h⟩ := zoS_s h
      cases ep22 : F_XReader_number sh p19 o 31 0 2 with
      | none =>
        rw [ep22] at h
        dsimp only [zoX] at h
        exact zr_thrV F hno (kT_XReader_number l D tA b sh _ hl h) zd_XReader_readTrack_34 (zW_o hs20 (by decide)) rfl zs_XReader_138 rfl zq_XReader_number rfl rfl ⟨(Nat.le_of_ble_eq_true rfl), (Nat.le_of_ble_eq_true rfl)⟩ (Nat.le_of_ble_eq_true rfl) ⟨(Nat.le_of_ble_eq_true rfl), (Nat.le_of_ble_eq_true rfl)⟩ ⟨(Nat.le_of_ble_eq_true rfl), (Nat.le_of_ble_eq_true rfl)⟩
      | some p22 =>
        rw [ep22] at h
        dsimp only [zoX] at h
        refine zr_callV1 F (k_XReader_number l D tA b sh _ ep22) zd_XReader_readTrack_34 (zW_o hs20 (by decide)) rfl zs_XReader_138 rfl zq_XReader_number rfl rfl ⟨(Nat.le_of_ble_eq_true rfl), (Nat.le_of_ble_eq_true rfl)⟩ (Nat.le_of_ble_eq_true rfl) ⟨(Nat.le_of_ble_eq_true rfl), (Nat.le_of_ble_eq_true rfl)⟩ ?_
        obtain ⟨le24, hs23, h⟩ := zoS_s h
        refine zr_put F 11 1 zd_XReader_readTrack_37 (zW_o hs23 (by decide)) rfl (by decide) zw_254 rfl rfl rfl rfl (by exact (Nat.le_of_ble_eq_true rfl)) ?_
        obtain ⟨mm25, emm25, h⟩ := zoL_s h
        refine zr_norm (zW tA b sh mm25) _ (by rw [emm25]; exact zW_pI (v := (p22.1)) hs23 (by decide) (zf_I_11_1 b _ _ _)) rfl ?_
        refine zr_pcn 40 rfl ?_
        refine zr_aload_n F zd_XReader_readTrack_40 rfl ?_
        refine zr_bipushv (v := 44) F zd_XReader_readTrack_41 (by decide) ?_
        obtain ⟨le27, hs26, h⟩ := zoS_s h
        cases ep28 : F_XReader_need sh mm25 o 44 with
        | none =>
          rw [ep28] at h
          dsimp only [zoX] at h
          exact zr_thrV F hno (kT_XReader_need l D tA b sh _ hl h) zd_XReader_readTrack_43 (zW_o hs26 (by decide)) rfl zs_XReader_45 rfl zq_XReader_need rfl rfl ⟨(Nat.le_of_ble_eq_true rfl), (Nat.le_of_ble_eq_true rfl)⟩ (Nat.le_of_ble_eq_true rfl) ⟨(Nat.le_of_ble_eq_true rfl), (Nat.le_of_ble_eq_true rfl)⟩ ⟨(Nat.le_of_ble_eq_true rfl), (Nat.le_of_ble_eq_true rfl)⟩
        | some p28 =>
          rw [ep28] at h
          dsimp only [zoX] at h
          refine zr_callV0 F (k_XReader_need l D tA b sh _ ep28) zd_XReader_readTrack_43 (zW_o hs26 (by decide)) rfl zs_XReader_45 rfl zq_XReader_need rfl rfl ⟨(Nat.le_of_ble_eq_true rfl), (Nat.le_of_ble_eq_true rfl)⟩ (Nat.le_of_ble_eq_true rfl) ⟨(Nat.le_of_ble_eq_true rfl), (Nat.le_of_ble_eq_true rfl)⟩ ?_
          refine zr_aload_n F zd_XReader_readTrack_46 rfl ?_
          refine zr_aload_n F zd_XReader_readTrack_47 rfl ?_
          refine zr_ldcS F 32 "how" zd_XReader_readTrack_48 (by decide +kernel) ?_
          refine zr_iconstv (v := 0) F zd_XReader_readTrack_50 (by decide) ?_
          refine zr_iconstv (v := 2) F zd_XReader_readTrack_51 (by decide) ?_
          refine zr_pcn 52 rfl ?_
          obtain ⟨le30, hs29, h⟩ := zoS_s h
          cases ep31 : F_XReader_number sh p28 o 32 0 2 with
          | none =>
            rw [ep31] at h
            dsimp only [zoX] at h
            exact zr_thrV F hno (kT_XReader_number l D tA b sh _ hl h) zd_XReader_readTrack_52 (zW_o hs29 (by decide)) rfl zs_XReader_138 rfl zq_XReader_number rfl rfl ⟨(Nat.le_of_ble_eq_true rfl), (Nat.le_of_ble_eq_true rfl)⟩ (Nat.le_of_ble_eq_true rfl) ⟨(Nat.le_of_ble_eq_true rfl), (Nat.le_of_ble_eq_true rfl)⟩ ⟨(Nat.le_of_ble_eq_true rfl), (Nat.le_of_ble_eq_true rfl)⟩
          | some p31 =>
            rw [ep31] at h
            dsimp only [zoX] at h
            refine zr_callV1 F (k_XReader_number l D tA b sh _ ep31) zd_XReader_readTrack_52 (zW_o hs29 (by decide)) rfl zs_XReader_138 rfl zq_XReader_number rfl rfl ⟨(Nat.le_of_ble_eq_true rfl), (Nat.le_of_ble_eq_true rfl)⟩ (Nat.le_of_ble_eq_true rfl) ⟨(Nat.le_of_ble_eq_true rfl), (Nat.le_of_ble_eq_true rfl)⟩ ?_
            obtain ⟨le33, hs32, h⟩ := zoS_s h
            refine zr_put F 11 2 zd_XReader_readTrack_55 (zW_o hs32 (by decide)) rfl (by decide) zw_256 rfl rfl rfl rfl (by exact (Nat.le_of_ble_eq_true rfl)) ?_
            obtain ⟨mm34, emm34, h⟩ := zoL_s h
            refine zr_norm (zW tA b sh mm34) _ (by rw [emm34]; exact zW_pI (v := (p31.1)) hs32 (by decide) (zf_I_11_2 b _ _ _)) rfl ?_
            refine zr_aload_n F zd_XReader_readTrack_58 rfl ?_
            refine zr_bipushv (v := 44) F zd_XReader_readTrack_59 (by decide) ?_
            obtain ⟨le36, hs35, h⟩ := zoS_s h
            cases ep37 : F_XReader_need sh mm34 o 44 with
            | none =>
              rw [ep37] at h
              dsimp only [zoX] at h
              exact zr_thrV F hno (kT_XReader_need l D tA b sh _ hl h) zd_XReader_readTrack_61 (zW_o hs35 (by decide)) rfl zs_XReader_45 rfl zq_XReader_need rfl rfl ⟨(Nat.le_of_ble_eq_true rfl), (Nat.le_of_ble_eq_true rfl)⟩ (Nat.le_of_ble_eq_true rfl) ⟨(Nat.le_of_ble_eq_true rfl), (Nat.le_of_ble_eq_true rfl)⟩ ⟨(Nat.le_of_ble_eq_true rfl), (Nat.le_of_ble_eq_true rfl)⟩
            | some p37 =>
              rw [ep37] at h
              dsimp only [zoX] at h
              refine zr_callV0 F (k_XReader_need l D tA b sh _ ep37) zd_XReader_readTrack_61 (zW_o hs35 (by decide)) rfl zs_XReader_45 rfl zq_XReader_need rfl rfl ⟨(Nat.le_of_ble_eq_true rfl), (Nat.le_of_ble_eq_true rfl)⟩ (Nat.le_of_ble_eq_true rfl) ⟨(Nat.le_of_ble_eq_true rfl), (Nat.le_of_ble_eq_true rfl)⟩ ?_
              refine zr_aload_n F zd_XReader_readTrack_64 rfl ?_
              refine zr_aload_n F zd_XReader_readTrack_65 rfl ?_
              refine zr_ldcS F 33 "times" zd_XReader_readTrack_66 (by decide +kernel) ?_
              refine zr_pcn 68 rfl ?_
              refine zr_bipushv (v := 32) F zd_XReader_readTrack_68 (by decide) ?_
              refine zr_iconstv (v := 1) F zd_XReader_readTrack_70 (by decide) ?_
              refine zr_iconstv (v := 0) F zd_XReader_readTrack_71 (by decide) ?_
              refine zr_ldc F zd_XReader_readTrack_72 zw_1276 ?_
              refine zr_iconstv (v := 1) F zd_XReader_readTrack_74 (by decide) ?_
              obtain ⟨le39, hs38, h⟩ := zoS_s h
              cases ep40 : F_XReader_numbers sh p37 o 33 32 1 0 1000000 1 with
              | none =>
                rw [ep40] at h
                dsimp only [zoX] at h
                exact zr_thrV F hno (kT_XReader_numbers l D tA b sh _ hl h) zd_XReader_readTrack_75 (zW_o hs38 (by decide)) rfl zs_XReader_160 rfl zq_XReader_numbers rfl rfl ⟨(Nat.le_of_ble_eq_true rfl), (Nat.le_of_ble_eq_true rfl)⟩ (Nat.le_of_ble_eq_true rfl) ⟨(Nat.le_of_ble_eq_true rfl), (Nat.le_of_ble_eq_true rfl)⟩ ⟨(Nat.le_of_ble_eq_true rfl), (Nat.le_of_ble_eq_true rfl)⟩
              | some p40 =>
                rw [ep40] at h
                dsimp only [zoX] at h
                refine zr_callV1 F (k_XReader_numbers l D tA b sh _ ep40) zd_XReader_readTrack_75 (zW_o hs38 (by decide)) rfl zs_XReader_160 rfl zq_XReader_numbers rfl rfl ⟨(Nat.le_of_ble_eq_true rfl), (Nat.le_of_ble_eq_true rfl)⟩ (Nat.le_of_ble_eq_true rfl) ⟨(Nat.le_of_ble_eq_true rfl), (Nat.le_of_ble_eq_true rfl)⟩ ?_
                obtain ⟨le42, hs41, h⟩ := zoS_s h
                refine zr_put F 11 3 zd_XReader_readTrack_78 (zW_o hs41 (by decide)) rfl (by decide) zw_258 rfl rfl rfl rfl (by exact (Nat.le_of_ble_eq_true rfl)) ?_
                obtain ⟨mm43, emm43, h⟩ := zoL_s h
                refine zr_norm (zW tA b sh mm43) _ (by rw [emm43]; exact zW_pI (v := (p40.1)) hs41 (by decide) (zf_I_11_3 b _ _ _)) rfl ?_
                refine zr_aload_n F zd_XReader_readTrack_81 rfl ?_
                refine zr_pcn 82 rfl ?_
                obtain ⟨le45, hs44, h⟩ := zoS_s h
                obtain ⟨a46, ea46, h⟩ := zoB_s h
                refine zr_get F 7 2 zd_XReader_readTrack_82 (zW_o hs44 (by decide)) rfl (by decide) zw_50 rfl (by rfl) ?_
                refine zr_tor ea46 ?_
                refine zr_iconstv (v := 0) F zd_XReader_readTrack_85 (by decide) ?_
                refine zr_aload_n F zd_XReader_readTrack_86 rfl ?_
                obtain ⟨le48, hs47, h⟩ := zoS_s h
                obtain ⟨a49, ea49, h⟩ := zoB_s h
                refine zr_get F 11 4 zd_XReader_readTrack_87 (zW_o hs47 (by decide)) rfl (by decide) zw_260 rfl (by rfl) ?_
                refine zr_tor ea49 ?_
                refine zr_iconstv (v := 0) F zd_XReader_readTrack_90 (by decide) ?_
                refine zr_aload_n F zd_XReader_readTrack_91 rfl ?_
                obtain ⟨le51, hs50, h⟩ := zoS_s h
                refine zr_get F 11 3 zd_XReader_readTrack_92 (zW_o hs50 (by decide)) rfl (by decide) zw_258 rfl (by rfl) ?_
                obtain ⟨x52, ex52, h⟩ := zoL_s h
                rw [← ex52]
                obtain ⟨le53, hs54, h⟩ := zoS_s h
                obtain ⟨le55, hs56, h⟩ := zoS_s h
                obtain ⟨hc57, h⟩ := zoT_s h
                obtain ⟨mm58, emm58, h⟩ := zoL_s h
                refine zr_copy F zd_XReader_readTrack_95 zw_1202 zw_724 zw_723 zw_26 (zW_a0 hs54) (zW_a0 hs56) hc57.1 hc57.2.1 hc57.2.2.1 hc57.2.2.2.1 hc57.2.2.2.2 (Nat.le_of_ble_eq_true rfl) (Nat.le_of_ble_eq_true rfl) ?_
                refine zr_norm (zW tA b sh mm58) _ (by rw [emm58]; exact zW_c hs56) rfl ?_
                refine zr_pcn 98 rfl ?_
                refine zr_aload_n F zd_XReader_readTrack_98 rfl ?_
                refine zr_bipushv (v := 44) F zd_XReader_readTrack_99 (by decide) ?_
                obtain ⟨le60, hs59, h⟩ := zoS_s h
                cases ep61 : F_XReader_need sh mm58 o 44 with
                | none =>
                  rw [ep61] at h
                  dsimp only [zoX] at h
                  exact zr_thrV F hno (kT_XReader_need l D tA b sh _ hl h) zd_XReader_readTrack_101 (zW_o hs59 (by decide)) rfl zs_XReader_45 rfl zq_XReader_need rfl rfl ⟨(Nat.le_of_ble_eq_true rfl), (Nat.le_of_ble_eq_true rfl)⟩ (Nat.le_of_ble_eq_true rfl) ⟨(Nat.le_of_ble_eq_true rfl), (Nat.le_of_ble_eq_true rfl)⟩ ⟨(Nat.le_of_ble_eq_true rfl), (Nat.le_of_ble_eq_true rfl)⟩
                | some p61 =>
                  rw [ep61] at h
                  dsimp only [zoX] at h
                  refine zr_callV0 F (k_XReader_need l D tA b sh _ ep61) zd_XReader_readTrack_101 (zW_o hs59 (by decide)) rfl zs_XReader_45 rfl zq_XReader_need rfl rfl ⟨(Nat.le_of_ble_eq_true rfl), (Nat.le_of_ble_eq_true rfl)⟩ (Nat.le_of_ble_eq_true rfl) ⟨(Nat.le_of_ble_eq_true rfl), (Nat.le_of_ble_eq_true rfl)⟩ ?_
                  refine zr_aload_n F zd_XReader_readTrack_104 rfl ?_
                  obtain ⟨le63, hs62, h⟩ := zoS_s h
                  refine zr_get F 11 1 zd_XReader_readTrack_105 (zW_o hs62 (by decide)) rfl (by decide) zw_254 rfl (by rfl) ?_
                  refine zr_callSN1 F (c_OB_reachOf l D tA b _ _ (p61.1 x0_ 1)) zd_XReader_readTrack_108 zs_XReader_258 zq_OB_reachOf rfl rfl ⟨(Nat.le_of_ble_eq_true rfl), (Nat.le_of_ble_eq_true rfl)⟩ (Nat.le_of_ble_eq_true rfl) ⟨(Nat.le_of_ble_eq_true rfl), (Nat.le_of_ble_eq_true rfl)⟩ ?_
                  obtain ⟨x65, ex65, h⟩ := zoL_s h
                  rw [← ex65]
                  refine zr_istore_n F zd_XReader_readTrack_111 (by decide) ?_
                  refine zr_iconstv (v := 3) F zd_XReader_readTrack_112 (by decide) ?_
                  refine zr_pcn 113 rfl ?_
                  refine zr_aload_n F zd_XReader_readTrack_113 rfl ?_
                  obtain ⟨le67, hs66, h⟩ := zoS_s h
                  refine zr_get F 11 3 zd_XReader_readTrack_114 (zW_o hs66 (by decide)) rfl (by decide) zw_258 rfl (by rfl) ?_
                  refine zr_imul F zd_XReader_readTrack_117 ?_
                  obtain ⟨x68, ex68, h⟩ := zoL_s h
                  rw [← ex68]
                  refine zr_istore_n F zd_XReader_readTrack_118 (by decide) ?_
                  refine zr_aload_n F zd_XReader_readTrack_119 rfl ?_
                  refine zr_ldcSW F 34 "values" zd_XReader_readTrack_120 (by decide +kernel) ?_
                  refine zr_iload_n F zd_XReader_readTrack_123 rfl ?_
                  refine zr_iload_n F zd_XReader_readTrack_124 rfl ?_
                  refine zr_pcn 125 rfl ?_
                  refine zr_iload_n F zd_XReader_readTrack_125 rfl ?_
                  refine zr_ineg F zd_XReader_readTrack_126 ?_
                  refine zr_iload_n F zd_XReader_readTrack_127 rfl ?_
                  refine zr_iconstv (v := 0) F zd_XReader_readTrack_128 (by decide) ?_
                  obtain ⟨le70, hs69, h⟩ := zoS_s h
                  cases ep71 : F_XReader_numbers sh p61 o 34 x68 x68 (-x65) x65 0 with
                  | none =>
                    rw [ep71] at h
                    dsimp only [zoX] at h
                    exact zr_thrV F hno (kT_XReader_numbers l D tA b sh _ hl h) zd_XReader_readTrack_129 (zW_o hs69 (by decide)) rfl zs_XReader_160 rfl zq_XReader_numbers rfl rfl ⟨(Nat.le_of_ble_eq_true rfl), (Nat.le_of_ble_eq_true rfl)⟩ (Nat.le_of_ble_eq_true rfl) ⟨(Nat.le_of_ble_eq_true rfl), (Nat.le_of_ble_eq_true rfl)⟩ ⟨(Nat.le_of_ble_eq_true rfl), (Nat.le_of_ble_eq_true rfl)⟩
                  | some p71 =>
                    rw [ep71] at h
                    dsimp only [zoX] at h
                    refine zr_callV1 F (k_XReader_numbers l D tA b sh _ ep71) zd_XReader_readTrack_129 (zW_o hs69 (by decide)) rfl zs_XReader_160 rfl zq_XReader_numbers rfl rfl ⟨(Nat.le_of_ble_eq_true rfl), (Nat.le_of_ble_eq_true rfl)⟩ (Nat.le_of_ble_eq_true rfl) ⟨(Nat.le_of_ble_eq_true rfl), (Nat.le_of_ble_eq_true rfl)⟩ ?_
                    refine zr_pop F zd_XReader_readTrack_132 rfl ?_
                    refine zr_aload_n F zd_XReader_readTrack_133 rfl ?_
                    obtain ⟨le73, hs72, h⟩ := zoS_s h
                    obtain ⟨a74, ea74, h⟩ := zoB_s h
                    refine zr_get F 7 2 zd_XReader_readTrack_134 (zW_o hs72 (by decide)) rfl (by decide) zw_50 rfl (by rfl) ?_
                    refine zr_tor ea74 ?_
                    refine zr_pcn 137 rfl ?_
                    refine zr_iconstv (v := 0) F zd_XReader_readTrack_137 (by decide) ?_
                    refine zr_aload_n F zd_XReader_readTrack_138 rfl ?_
                    obtain ⟨le76, hs75, h⟩ := zoS_s h
                    obtain ⟨a77, ea77, h⟩ := zoB_s h
                    refine zr_get F 11 5 zd_XReader_readTrack_139 (zW_o hs75 (by decide)) rfl (by decide) zw_262 rfl (by rfl) ?_
                    refine zr_tor ea77 ?_
                    refine zr_iconstv (v := 0) F zd_XReader_readTrack_142 (by decide) ?_
                    refine zr_iload_n F zd_XReader_readTrack_143 rfl ?_
                    obtain ⟨le78, hs79, h⟩ := zoS_s h
                    obtain ⟨le80, hs81, h⟩ := zoS_s h
                    obtain ⟨hc82, h⟩ := zoT_s h
                    obtain ⟨mm83, emm83, h⟩ := zoL_s h
                    refine zr_copy F zd_XReader_readTrack_144 zw_1202 zw_724 zw_723 zw_26 (zW_a0 hs79) (zW_a0 hs81) hc82.1 hc82.2.1 hc82.2.2.1 hc82.2.2.2.1 hc82.2.2.2.2 (Nat.le_of_ble_eq_true rfl) (Nat.le_of_ble_eq_true rfl) ?_
                    refine zr_norm (zW tA b sh mm83) _ (by rw [emm83]; exact zW_c hs81) rfl ?_
                    cases h
