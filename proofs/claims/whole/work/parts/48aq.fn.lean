abbrev zb_XReader_readNode : ByteArray := prog_8_method_8_code
def zy_XReader_readNode : MethodName := ⟨"OrreryBox$Reader", "readNode", "(LOrreryBox$Node;I)V"⟩
theorem zc_XReader_readNode : Cond.code zy_XReader_readNode zb_XReader_readNode 3 none ∈ gw := gw_t 1264 (by decide +kernel) rfl
theorem zq_XReader_readNode : zy_XReader_readNode.cls ≠ "java/lang/invoke/MethodHandle" ∧ zy_XReader_readNode.cls ≠ "java/lang/invoke/VarHandle" ∧ (parseMethodDescriptor zy_XReader_readNode.desc).map (fun d => d.parameters.length) = some 2 := by decide +kernel
theorem zd_XReader_readNode_0 : decode zb_XReader_readNode 0 = .ok (.aload_n 1, 1) := by decide +kernel
theorem zd_XReader_readNode_1 : decode zb_XReader_readNode 1 = .ok (.iconst 0, 1) := by decide +kernel
theorem zd_XReader_readNode_2 : decode zb_XReader_readNode 2 = .ok (.putfield 213, 3) := by decide +kernel
theorem zd_XReader_readNode_5 : decode zb_XReader_readNode 5 = .ok (.aload_n 1, 1) := by decide +kernel
theorem zd_XReader_readNode_6 : decode zb_XReader_readNode 6 = .ok (.aload_n 0, 1) := by decide +kernel
theorem zd_XReader_readNode_7 : decode zb_XReader_readNode 7 = .ok (.ldc 218, 2) := by decide +kernel
theorem zd_XReader_readNode_9 : decode zb_XReader_readNode 9 = .ok (.iconst (-1), 1) := by decide +kernel
theorem zd_XReader_readNode_10 : decode zb_XReader_readNode 10 = .ok (.iload_n 2, 1) := by decide +kernel
theorem zd_XReader_readNode_11 : decode zb_XReader_readNode 11 = .ok (.iconst 1, 1) := by decide +kernel
theorem zd_XReader_readNode_12 : decode zb_XReader_readNode 12 = .ok (.isub, 1) := by decide +kernel
theorem zd_XReader_readNode_13 : decode zb_XReader_readNode 13 = .ok (.invokevirtual 138, 3) := by decide +kernel
theorem zd_XReader_readNode_16 : decode zb_XReader_readNode 16 = .ok (.putfield 220, 3) := by decide +kernel
theorem zd_XReader_readNode_19 : decode zb_XReader_readNode 19 = .ok (.aload_n 0, 1) := by decide +kernel
theorem zd_XReader_readNode_20 : decode zb_XReader_readNode 20 = .ok (.bipush 44, 2) := by decide +kernel
theorem zd_XReader_readNode_22 : decode zb_XReader_readNode 22 = .ok (.invokevirtual 45, 3) := by decide +kernel
theorem zd_XReader_readNode_25 : decode zb_XReader_readNode 25 = .ok (.aload_n 1, 1) := by decide +kernel
theorem zd_XReader_readNode_26 : decode zb_XReader_readNode 26 = .ok (.aload_n 0, 1) := by decide +kernel
theorem zd_XReader_readNode_27 : decode zb_XReader_readNode 27 = .ok (.ldc 222, 2) := by decide +kernel
theorem zd_XReader_readNode_29 : decode zb_XReader_readNode 29 = .ok (.iconst (-1), 1) := by decide +kernel
theorem zd_XReader_readNode_30 : decode zb_XReader_readNode 30 = .ok (.aload_n 0, 1) := by decide +kernel
theorem zd_XReader_readNode_31 : decode zb_XReader_readNode 31 = .ok (.getfield 23, 3) := by decide +kernel
theorem zd_XReader_readNode_34 : decode zb_XReader_readNode 34 = .ok (.getfield 133, 3) := by decide +kernel
theorem zd_XReader_readNode_37 : decode zb_XReader_readNode 37 = .ok (.iconst 2, 1) := by decide +kernel
theorem zd_XReader_readNode_38 : decode zb_XReader_readNode 38 = .ok (.iaload, 1) := by decide +kernel
theorem zd_XReader_readNode_39 : decode zb_XReader_readNode 39 = .ok (.iconst 1, 1) := by decide +kernel
theorem zd_XReader_readNode_40 : decode zb_XReader_readNode 40 = .ok (.isub, 1) := by decide +kernel
theorem zd_XReader_readNode_41 : decode zb_XReader_readNode 41 = .ok (.invokevirtual 138, 3) := by decide +kernel
theorem zd_XReader_readNode_44 : decode zb_XReader_readNode 44 = .ok (.putfield 224, 3) := by decide +kernel
theorem zd_XReader_readNode_47 : decode zb_XReader_readNode 47 = .ok (.aload_n 0, 1) := by decide +kernel
theorem zd_XReader_readNode_48 : decode zb_XReader_readNode 48 = .ok (.bipush 44, 2) := by decide +kernel
theorem zd_XReader_readNode_50 : decode zb_XReader_readNode 50 = .ok (.invokevirtual 45, 3) := by decide +kernel
theorem zd_XReader_readNode_53 : decode zb_XReader_readNode 53 = .ok (.aload_n 0, 1) := by decide +kernel
theorem zd_XReader_readNode_54 : decode zb_XReader_readNode 54 = .ok (.ldc 226, 2) := by decide +kernel
theorem zd_XReader_readNode_56 : decode zb_XReader_readNode 56 = .ok (.iconst 3, 1) := by decide +kernel
theorem zd_XReader_readNode_57 : decode zb_XReader_readNode 57 = .ok (.iconst 3, 1) := by decide +kernel
theorem zd_XReader_readNode_58 : decode zb_XReader_readNode 58 = .ok (.ldc 228, 2) := by decide +kernel
theorem zd_XReader_readNode_60 : decode zb_XReader_readNode 60 = .ok (.ldc 229, 2) := by decide +kernel
theorem zd_XReader_readNode_62 : decode zb_XReader_readNode 62 = .ok (.iconst 0, 1) := by decide +kernel
theorem zd_XReader_readNode_63 : decode zb_XReader_readNode 63 = .ok (.invokevirtual 160, 3) := by decide +kernel
theorem zd_XReader_readNode_66 : decode zb_XReader_readNode 66 = .ok (.pop, 1) := by decide +kernel
theorem zd_XReader_readNode_67 : decode zb_XReader_readNode 67 = .ok (.aload_n 0, 1) := by decide +kernel
theorem zd_XReader_readNode_68 : decode zb_XReader_readNode 68 = .ok (.getfield 9, 3) := by decide +kernel
theorem zd_XReader_readNode_71 : decode zb_XReader_readNode 71 = .ok (.iconst 0, 1) := by decide +kernel
theorem zd_XReader_readNode_72 : decode zb_XReader_readNode 72 = .ok (.aload_n 1, 1) := by decide +kernel
theorem zd_XReader_readNode_73 : decode zb_XReader_readNode 73 = .ok (.getfield 230, 3) := by decide +kernel
theorem zd_XReader_readNode_76 : decode zb_XReader_readNode 76 = .ok (.iconst 0, 1) := by decide +kernel
theorem zd_XReader_readNode_77 : decode zb_XReader_readNode 77 = .ok (.iconst 3, 1) := by decide +kernel
theorem zd_XReader_readNode_78 : decode zb_XReader_readNode 78 = .ok (.invokestatic 169, 3) := by decide +kernel
theorem zd_XReader_readNode_81 : decode zb_XReader_readNode 81 = .ok (.aload_n 0, 1) := by decide +kernel
theorem zd_XReader_readNode_82 : decode zb_XReader_readNode 82 = .ok (.bipush 44, 2) := by decide +kernel
theorem zd_XReader_readNode_84 : decode zb_XReader_readNode 84 = .ok (.invokevirtual 45, 3) := by decide +kernel
theorem zd_XReader_readNode_87 : decode zb_XReader_readNode 87 = .ok (.aload_n 0, 1) := by decide +kernel
theorem zd_XReader_readNode_88 : decode zb_XReader_readNode 88 = .ok (.ldc 232, 2) := by decide +kernel
theorem zd_XReader_readNode_90 : decode zb_XReader_readNode 90 = .ok (.iconst 3, 1) := by decide +kernel
theorem zd_XReader_readNode_91 : decode zb_XReader_readNode 91 = .ok (.iconst 3, 1) := by decide +kernel
theorem zd_XReader_readNode_92 : decode zb_XReader_readNode 92 = .ok (.ldc 187, 2) := by decide +kernel
theorem zd_XReader_readNode_94 : decode zb_XReader_readNode 94 = .ok (.ldc 188, 2) := by decide +kernel
theorem zd_XReader_readNode_96 : decode zb_XReader_readNode 96 = .ok (.iconst 0, 1) := by decide +kernel
theorem zd_XReader_readNode_97 : decode zb_XReader_readNode 97 = .ok (.invokevirtual 160, 3) := by decide +kernel
theorem zd_XReader_readNode_100 : decode zb_XReader_readNode 100 = .ok (.pop, 1) := by decide +kernel
theorem zd_XReader_readNode_101 : decode zb_XReader_readNode 101 = .ok (.aload_n 0, 1) := by decide +kernel
theorem zd_XReader_readNode_102 : decode zb_XReader_readNode 102 = .ok (.getfield 9, 3) := by decide +kernel
theorem zd_XReader_readNode_105 : decode zb_XReader_readNode 105 = .ok (.iconst 0, 1) := by decide +kernel
theorem zd_XReader_readNode_106 : decode zb_XReader_readNode 106 = .ok (.aload_n 1, 1) := by decide +kernel
theorem zd_XReader_readNode_107 : decode zb_XReader_readNode 107 = .ok (.getfield 230, 3) := by decide +kernel
theorem zd_XReader_readNode_110 : decode zb_XReader_readNode 110 = .ok (.iconst 3, 1) := by decide +kernel
theorem zd_XReader_readNode_111 : decode zb_XReader_readNode 111 = .ok (.iconst 3, 1) := by decide +kernel
theorem zd_XReader_readNode_112 : decode zb_XReader_readNode 112 = .ok (.invokestatic 169, 3) := by decide +kernel
theorem zd_XReader_readNode_115 : decode zb_XReader_readNode 115 = .ok (.aload_n 0, 1) := by decide +kernel
theorem zd_XReader_readNode_116 : decode zb_XReader_readNode 116 = .ok (.bipush 44, 2) := by decide +kernel
theorem zd_XReader_readNode_118 : decode zb_XReader_readNode 118 = .ok (.invokevirtual 45, 3) := by decide +kernel
theorem zd_XReader_readNode_121 : decode zb_XReader_readNode 121 = .ok (.aload_n 0, 1) := by decide +kernel
theorem zd_XReader_readNode_122 : decode zb_XReader_readNode 122 = .ok (.ldc 234, 2) := by decide +kernel
theorem zd_XReader_readNode_124 : decode zb_XReader_readNode 124 = .ok (.iconst 3, 1) := by decide +kernel
theorem zd_XReader_readNode_125 : decode zb_XReader_readNode 125 = .ok (.iconst 3, 1) := by decide +kernel
theorem zd_XReader_readNode_126 : decode zb_XReader_readNode 126 = .ok (.ldc 187, 2) := by decide +kernel
theorem zd_XReader_readNode_128 : decode zb_XReader_readNode 128 = .ok (.ldc 188, 2) := by decide +kernel
theorem zd_XReader_readNode_130 : decode zb_XReader_readNode 130 = .ok (.iconst 0, 1) := by decide +kernel
theorem zd_XReader_readNode_131 : decode zb_XReader_readNode 131 = .ok (.invokevirtual 160, 3) := by decide +kernel
theorem zd_XReader_readNode_134 : decode zb_XReader_readNode 134 = .ok (.pop, 1) := by decide +kernel
theorem zd_XReader_readNode_135 : decode zb_XReader_readNode 135 = .ok (.aload_n 0, 1) := by decide +kernel
theorem zd_XReader_readNode_136 : decode zb_XReader_readNode 136 = .ok (.getfield 9, 3) := by decide +kernel
theorem zd_XReader_readNode_139 : decode zb_XReader_readNode 139 = .ok (.iconst 0, 1) := by decide +kernel
theorem zd_XReader_readNode_140 : decode zb_XReader_readNode 140 = .ok (.aload_n 1, 1) := by decide +kernel
theorem zd_XReader_readNode_141 : decode zb_XReader_readNode 141 = .ok (.getfield 230, 3) := by decide +kernel
theorem zd_XReader_readNode_144 : decode zb_XReader_readNode 144 = .ok (.bipush 6, 2) := by decide +kernel
theorem zd_XReader_readNode_146 : decode zb_XReader_readNode 146 = .ok (.iconst 3, 1) := by decide +kernel
theorem zd_XReader_readNode_147 : decode zb_XReader_readNode 147 = .ok (.invokestatic 169, 3) := by decide +kernel
theorem zd_XReader_readNode_150 : decode zb_XReader_readNode 150 = .ok (.return_, 1) := by decide +kernel
theorem zw_221 : (Jvm.Cond.fieldLink "OrreryBox$Reader" (213 : Nat) "OrreryBox$Node" "hidden" "Z") ∈ gw := gw_t 221 (by decide +kernel) rfl
theorem zw_215 : (Jvm.Cond.fieldLink "OrreryBox$Reader" (220 : Nat) "OrreryBox$Node" "parent" "I") ∈ gw := gw_t 215 (by decide +kernel) rfl
theorem zw_219 : (Jvm.Cond.fieldLink "OrreryBox$Reader" (224 : Nat) "OrreryBox$Node" "mesh" "I") ∈ gw := gw_t 219 (by decide +kernel) rfl
theorem zf_I_3_1 (b : Nat) (m : zMem) (k : Nat) (v : Int32) : (zfl b 3 m k).set 1 (.int v) = zfl b 3 (mI m k 1 v) k := by simp [zfl, mI, upd, vp_updL]
theorem zw_1185 : (Jvm.Cond.constant "OrreryBox$Reader" (228 : Nat) (-4194304 : Int32)) ∈ gw := gw_t 1185 (by decide +kernel) rfl
theorem zw_1186 : (Jvm.Cond.constant "OrreryBox$Reader" (229 : Nat) (4194304 : Int32)) ∈ gw := gw_t 1186 (by decide +kernel) rfl
theorem zw_228 : (Jvm.Cond.fieldLink "OrreryBox$Reader" (230 : Nat) "OrreryBox$Node" "numbers" "[I") ∈ gw := gw_t 228 (by decide +kernel) rfl
def F_XReader_readNode (sh : zSh) (mm : zMem) (o : Nat) (x0_ : Nat) (x1_ : Int32) : Option zMem := zoS (sh x0_) 3 (fun le2 => zoL (mI mm x0_ 2 0) (fun mm3 => zoS (sh o) 7 (fun le5 => Option.bind (F_XReader_number sh mm3 o 27 (-1) (x1_ - 1)) (fun p6 => zoS (sh x0_) 3 (fun le8 => zoL (mI (p6.2) x0_ 0 (p6.1)) (fun mm9 => zoS (sh o) 7 (fun le11 => Option.bind (F_XReader_need sh mm9 o 44) (fun p12 => zoS (sh o) 7 (fun le14 => Option.bind (p12.2.2 o 7) (fun a15 => zoS (sh a15) 8 (fun le17 => Option.bind (p12.2.2 a15 0) (fun a18 => zoS (sh a18) 100 (fun le20 => if (2 : Int32) < 0 ∨ le20 ≤ (2 : Int32).toNatClampNeg then none else zoS (sh o) 7 (fun le23 => zoL ((p12.1 a18 (2 : Int32).toNatClampNeg) - 1) (fun x24 => Option.bind (F_XReader_number sh p12 o 28 (-1) x24) (fun p25 => zoS (sh x0_) 3 (fun le27 => zoL (mI (p25.2) x0_ 1 (p25.1)) (fun mm28 => zoS (sh o) 7 (fun le30 => Option.bind (F_XReader_need sh mm28 o 44) (fun p31 => zoS (sh o) 7 (fun le33 => Option.bind (F_XReader_numbers sh p31 o 10 3 3 (-4194304) 4194304 0) (fun p34 => zoS (sh o) 7 (fun le36 => Option.bind ((p34.2).2.2 o 2) (fun a37 => zoS (sh x0_) 3 (fun le39 => Option.bind ((p34.2).2.2 x0_ 4) (fun a40 => zoS (sh a37) 100 (fun le41 => zoS (sh a40) 100 (fun le43 => if ¬ (0 : Int32) < 0 ∧ ¬ (0 : Int32) < 0 ∧ ¬ (3 : Int32) < 0 ∧ (0 : Int32).toNatClampNeg + (3 : Int32).toNatClampNeg ≤ le41 ∧ (0 : Int32).toNatClampNeg + (3 : Int32).toNatClampNeg ≤ le43 then zoL (mC (p34.2) a37 a40 (0 : Int32).toNatClampNeg (0 : Int32).toNatClampNeg (3 : Int32).toNatClampNeg) (fun mm46 => zoS (sh o) 7 (fun le48 => Option.bind (F_XReader_need sh mm46 o 44) (fun p49 => zoS (sh o) 7 (fun le51 => Option.bind (F_XReader_numbers sh p49 o 11 3 3 (-1048576) 1048576 0) (fun p52 => zoS (sh o) 7 (fun le54 => Option.bind ((p52.2).2.2 o 2) (fun a55 => zoS (sh x0_) 3 (fun le57 => Option.bind ((p52.2).2.2 x0_ 4) (fun a58 => zoS (sh a55) 100 (fun le59 => zoS (sh a58) 100 (fun le61 => if ¬ (0 : Int32) < 0 ∧ ¬ (3 : Int32) < 0 ∧ ¬ (3 : Int32) < 0 ∧ (0 : Int32).toNatClampNeg + (3 : Int32).toNatClampNeg ≤ le59 ∧ (3 : Int32).toNatClampNeg + (3 : Int32).toNatClampNeg ≤ le61 then zoL (mC (p52.2) a55 a58 (0 : Int32).toNatClampNeg (3 : Int32).toNatClampNeg (3 : Int32).toNatClampNeg) (fun mm64 => zoS (sh o) 7 (fun le66 => Option.bind (F_XReader_need sh mm64 o 44) (fun p67 => zoS (sh o) 7 (fun le69 => Option.bind (F_XReader_numbers sh p67 o 29 3 3 (-1048576) 1048576 0) (fun p70 => zoS (sh o) 7 (fun le72 => Option.bind ((p70.2).2.2 o 2) (fun a73 => zoS (sh x0_) 3 (fun le75 => Option.bind ((p70.2).2.2 x0_ 4) (fun a76 => zoS (sh a73) 100 (fun le77 => zoS (sh a76) 100 (fun le79 => if ¬ (0 : Int32) < 0 ∧ ¬ (6 : Int32) < 0 ∧ ¬ (3 : Int32) < 0 ∧ (0 : Int32).toNatClampNeg + (3 : Int32).toNatClampNeg ≤ le77 ∧ (6 : Int32).toNatClampNeg + (3 : Int32).toNatClampNeg ≤ le79 then zoL (mC (p70.2) a73 a76 (0 : Int32).toNatClampNeg (6 : Int32).toNatClampNeg (3 : Int32).toNatClampNeg) (fun mm82 => some mm82) else none))))))))))) else none))))))))))) else none))))))))))))))))))))))))))))
set_option maxHeartbeats 4000000 in
set_option maxRecDepth 100000 in
theorem k_XReader_readNode (l : Launch) (D : va_G) (tA : Nat → ClassId) (b : Nat) (sh : zSh) (n : Nat) {mm : zMem} {o : Nat} {x0_ : Nat} {x1_ : Int32} {r : zMem} (h : F_XReader_readNode sh mm o x0_ x1_ = some r) : zM l D tA b zy_XReader_readNode zb_XReader_readNode 3 none 7 158 0 0 [.ref (b + o), .ref (b + x0_), .int x1_] (zW tA b sh mm) n (zE none (zW tA b sh r) n) := by
  unfold F_XReader_readNode at h
  refine zM_of (own := "OrreryBox$Reader") (plainFor_of_name (by decide)) rfl (Nat.le_of_ble_eq_true rfl) (fun p e s m below meth c F hr hin hH => ?_)
  refine zr_aload_n F zd_XReader_readNode_0 rfl ?_
  refine zr_iconstv (v := 0) F zd_XReader_readNode_1 (by decide) ?_
  obtain ⟨le2, hs1, h⟩ := zoS_s h
  refine zr_put F 3 2 zd_XReader_readNode_2 (zW_o hs1 (by decide)) rfl (by decide) zw_221 rfl rfl rfl rfl (by exact (Nat.le_of_ble_eq_true rfl)) ?_
  obtain ⟨mm3, emm3, h⟩ := zoL_s h
  refine zr_norm (zW tA b sh mm3) _ (by rw [emm3]; exact zW_pI (v := 0) hs1 (by decide) (zf_I_3_2 b _ _ _)) rfl ?_
  refine zr_aload_n F zd_XReader_readNode_5 rfl ?_
  refine zr_aload_n F zd_XReader_readNode_6 rfl ?_
  refine zr_ldcS F 27 "parent" zd_XReader_readNode_7 (by decide +kernel) ?_
  refine zr_iconstv (v := (-1)) F zd_XReader_readNode_9 (by decide) ?_
  refine zr_pcn 10 rfl ?_
  refine zr_iload_n F zd_XReader_readNode_10 rfl ?_
  refine zr_iconstv (v := 1) F zd_XReader_readNode_11 (by decide) ?_
  refine zr_isub F zd_XReader_readNode_12 ?_
  obtain ⟨le5, hs4, h⟩ := zoS_s h
  obtain ⟨p6, ep6, h⟩ := zoB_s h
  refine zr_callV1 F (k_XReader_number l D tA b sh _ ep6) zd_XReader_readNode_13 (zW_o hs4 (by decide)) rfl zs_XReader_138 rfl zq_XReader_number rfl rfl ⟨(Nat.le_of_ble_eq_true rfl), (Nat.le_of_ble_eq_true rfl)⟩ (Nat.le_of_ble_eq_true rfl) ⟨(Nat.le_of_ble_eq_true rfl), (Nat.le_of_ble_eq_true rfl)⟩ ?_
  obtain ⟨le8, hs7, h⟩ := zoS_s h
  refine zr_put F 3 0 zd_XReader_readNode_16 (zW_o hs7 (by decide)) rfl (by decide) zw_215 rfl rfl rfl rfl (by exact (Nat.le_of_ble_eq_true rfl)) ?_
  obtain ⟨mm9, emm9, h⟩ := zoL_s h
  refine zr_norm (zW tA b sh mm9) _ (by rw [emm9]; exact zW_pI (v := (p6.1)) hs7 (by decide) (zf_I_3_0 b _ _ _)) rfl ?_
  refine zr_aload_n F zd_XReader_readNode_19 rfl ?_
  refine zr_bipushv (v := 44) F zd_XReader_readNode_20 (by decide) ?_
  obtain ⟨le11, hs10, h⟩ := zoS_s h
  obtain ⟨p12, ep12, h⟩ := zoB_s h
  refine zr_callV0 F (k_XReader_need l D tA b sh _ ep12) zd_XReader_readNode_22 (zW_o hs10 (by decide)) rfl zs_XReader_45 rfl zq_XReader_need rfl rfl ⟨(Nat.le_of_ble_eq_true rfl), (Nat.le_of_ble_eq_true rfl)⟩ (Nat.le_of_ble_eq_true rfl) ⟨(Nat.le_of_ble_eq_true rfl), (Nat.le_of_ble_eq_true rfl)⟩ ?_
  refine zr_pcn 25 rfl ?_
  refine zr_aload_n F zd_XReader_readNode_25 rfl ?_
  refine zr_aload_n F zd_XReader_readNode_26 rfl ?_
  refine zr_ldcS F 28 "mesh" zd_XReader_readNode_27 (by decide +kernel) ?_
  refine zr_iconstv (v := (-1)) F zd_XReader_readNode_29 (by decide) ?_
  refine zr_aload_n F zd_XReader_readNode_30 rfl ?_
  obtain ⟨le14, hs13, h⟩ := zoS_s h
  obtain ⟨a15, ea15, h⟩ := zoB_s h
  refine zr_get F 7 7 zd_XReader_readNode_31 (zW_o hs13 (by decide)) rfl (by decide) zw_55 rfl (by rfl) ?_
  refine zr_tor ea15 ?_
  obtain ⟨le17, hs16, h⟩ := zoS_s h
  obtain ⟨a18, ea18, h⟩ := zoB_s h
  refine zr_get F 8 0 zd_XReader_readNode_34 (zW_o hs16 (by decide)) rfl (by decide) zw_284 rfl (by rfl) ?_
  refine zr_tor ea18 ?_
  refine zr_iconstv (v := 2) F zd_XReader_readNode_37 (by decide) ?_
  refine zr_pcn 38 rfl ?_
  obtain ⟨le20, hs19, h⟩ := zoS_s h
  obtain ⟨hi21, h⟩ := zoI_s h
  refine zr_iald F zd_XReader_readNode_38 (zW_a0 hs19) hi21 ?_
  refine zr_iconstv (v := 1) F zd_XReader_readNode_39 (by decide) ?_
  refine zr_isub F zd_XReader_readNode_40 ?_
  obtain ⟨le23, hs22, h⟩ := zoS_s h
  obtain ⟨x24, ex24, h⟩ := zoL_s h
  rw [← ex24]
  obtain ⟨p25, ep25, h⟩ := zoB_s h
  refine zr_callV1 F (k_XReader_number l D tA b sh _ ep25) zd_XReader_readNode_41 (zW_o hs22 (by decide)) rfl zs_XReader_138 rfl zq_XReader_number rfl rfl ⟨(Nat.le_of_ble_eq_true rfl), (Nat.le_of_ble_eq_true rfl)⟩ (Nat.le_of_ble_eq_true rfl) ⟨(Nat.le_of_ble_eq_true rfl), (Nat.le_of_ble_eq_true rfl)⟩ ?_
  obtain ⟨le27, hs26, h⟩ := zoS_s h
  refine zr_put F 3 1 zd_XReader_readNode_44 (zW_o hs26 (by decide)) rfl (by decide) zw_219 rfl rfl rfl rfl (by exact (Nat.le_of_ble_eq_true rfl)) ?_
  obtain ⟨mm28, emm28, h⟩ := zoL_s h
  refine zr_norm (zW tA b sh mm28) _ (by rw [emm28]; exact zW_pI (v := (p25.1)) hs26 (by decide) (zf_I_3_1 b _ _ _)) rfl ?_
  refine zr_aload_n F zd_XReader_readNode_47 rfl ?_
  refine zr_bipushv (v := 44) F zd_XReader_readNode_48 (by decide) ?_
  obtain ⟨le30, hs29, h⟩ := zoS_s h
  obtain ⟨p31, ep31, h⟩ := zoB_s h
  refine zr_callV0 F (k_XReader_need l D tA b sh _ ep31) zd_XReader_readNode_50 (zW_o hs29 (by decide)) rfl zs_XReader_45 rfl zq_XReader_need rfl rfl ⟨(Nat.le_of_ble_eq_true rfl), (Nat.le_of_ble_eq_true rfl)⟩ (Nat.le_of_ble_eq_true rfl) ⟨(Nat.le_of_ble_eq_true rfl), (Nat.le_of_ble_eq_true rfl)⟩ ?_
  refine zr_pcn 53 rfl ?_
  refine zr_aload_n F zd_XReader_readNode_53 rfl ?_
  refine zr_ldcS F 10 "move" zd_XReader_readNode_54 (by decide +kernel) ?_
  refine zr_iconstv (v := 3) F zd_XReader_readNode_56 (by decide) ?_
  refine zr_iconstv (v := 3) F zd_XReader_readNode_57 (by decide) ?_
  refine zr_ldc F zd_XReader_readNode_58 zw_1185 ?_
  refine zr_ldc F zd_XReader_readNode_60 zw_1186 ?_
  refine zr_iconstv (v := 0) F zd_XReader_readNode_62 (by decide) ?_
  obtain ⟨le33, hs32, h⟩ := zoS_s h
  obtain ⟨p34, ep34, h⟩ := zoB_s h
  refine zr_callV1 F (k_XReader_numbers l D tA b sh _ ep34) zd_XReader_readNode_63 (zW_o hs32 (by decide)) rfl zs_XReader_160 rfl zq_XReader_numbers rfl rfl ⟨(Nat.le_of_ble_eq_true rfl), (Nat.le_of_ble_eq_true rfl)⟩ (Nat.le_of_ble_eq_true rfl) ⟨(Nat.le_of_ble_eq_true rfl), (Nat.le_of_ble_eq_true rfl)⟩ ?_
  refine zr_pcn 66 rfl ?_
  refine zr_pop F zd_XReader_readNode_66 rfl ?_
  refine zr_aload_n F zd_XReader_readNode_67 rfl ?_
  obtain ⟨le36, hs35, h⟩ := zoS_s h
  obtain ⟨a37, ea37, h⟩ := zoB_s h
  refine zr_get F 7 2 zd_XReader_readNode_68 (zW_o hs35 (by decide)) rfl (by decide) zw_50 rfl (by rfl) ?_
  refine zr_tor ea37 ?_
  refine zr_iconstv (v := 0) F zd_XReader_readNode_71 (by decide) ?_
  refine zr_aload_n F zd_XReader_readNode_72 rfl ?_
  obtain ⟨le39, hs38, h⟩ := zoS_s h
  obtain ⟨a40, ea40, h⟩ := zoB_s h
  refine zr_get F 3 4 zd_XReader_readNode_73 (zW_o hs38 (by decide)) rfl (by decide) zw_228 rfl (by rfl) ?_
  refine zr_tor ea40 ?_
  refine zr_iconstv (v := 0) F zd_XReader_readNode_76 (by decide) ?_
  refine zr_iconstv (v := 3) F zd_XReader_readNode_77 (by decide) ?_
  refine zr_pcn 78 rfl ?_
  obtain ⟨le41, hs42, h⟩ := zoS_s h
  obtain ⟨le43, hs44, h⟩ := zoS_s h
  obtain ⟨hc45, h⟩ := zoT_s h
  obtain ⟨mm46, emm46, h⟩ := zoL_s h
  refine zr_copy F zd_XReader_readNode_78 zw_1202 zw_724 zw_723 zw_26 (zW_a0 hs42) (zW_a0 hs44) hc45.1 hc45.2.1 hc45.2.2.1 hc45.2.2.2.1 hc45.2.2.2.2 (Nat.le_of_ble_eq_true rfl) (Nat.le_of_ble_eq_true rfl) ?_
  refine zr_norm (zW tA b sh mm46) _ (by rw [emm46]; exact zW_c hs44) rfl ?_
  refine zr_aload_n F zd_XReader_readNode_81 rfl ?_
  refine zr_bipushv (v := 44) F zd_XReader_readNode_82 (by decide) ?_
  obtain ⟨le48, hs47, h⟩ := zoS_s h
  obtain ⟨p49, ep49, h⟩ := zoB_s h
  refine zr_callV0 F (k_XReader_need l D tA b sh _ ep49) zd_XReader_readNode_84 (zW_o hs47 (by decide)) rfl zs_XReader_45 rfl zq_XReader_need rfl rfl ⟨(Nat.le_of_ble_eq_true rfl), (Nat.le_of_ble_eq_true rfl)⟩ (Nat.le_of_ble_eq_true rfl) ⟨(Nat.le_of_ble_eq_true rfl), (Nat.le_of_ble_eq_true rfl)⟩ ?_
  refine zr_aload_n F zd_XReader_readNode_87 rfl ?_
  refine zr_ldcS F 11 "turn" zd_XReader_readNode_88 (by decide +kernel) ?_
  refine zr_iconstv (v := 3) F zd_XReader_readNode_90 (by decide) ?_
  refine zr_iconstv (v := 3) F zd_XReader_readNode_91 (by decide) ?_
  refine zr_pcn 92 rfl ?_
  refine zr_ldc F zd_XReader_readNode_92 zw_1204 ?_
  refine zr_ldc F zd_XReader_readNode_94 zw_1205 ?_
  refine zr_iconstv (v := 0) F zd_XReader_readNode_96 (by decide) ?_
  obtain ⟨le51, hs50, h⟩ := zoS_s h
  obtain ⟨p52, ep52, h⟩ := zoB_s h
  refine zr_callV1 F (k_XReader_numbers l D tA b sh _ ep52) zd_XReader_readNode_97 (zW_o hs50 (by decide)) rfl zs_XReader_160 rfl zq_XReader_numbers rfl rfl ⟨(Nat.le_of_ble_eq_true rfl), (Nat.le_of_ble_eq_true rfl)⟩ (Nat.le_of_ble_eq_true rfl) ⟨(Nat.le_of_ble_eq_true rfl), (Nat.le_of_ble_eq_true rfl)⟩ ?_
  refine zr_pop F zd_XReader_readNode_100 rfl ?_
  refine zr_aload_n F zd_XReader_readNode_101 rfl ?_
  obtain ⟨le54, hs53, h⟩ := zoS_s h
  obtain ⟨a55, ea55, h⟩ := zoB_s h
  refine zr_get F 7 2 zd_XReader_readNode_102 (zW_o hs53 (by decide)) rfl (by decide) zw_50 rfl (by rfl) ?_
  refine zr_tor ea55 ?_
  refine zr_iconstv (v := 0) F zd_XReader_readNode_105 (by decide) ?_
  refine zr_pcn 106 rfl ?_
  refine zr_aload_n F zd_XReader_readNode_106 rfl ?_
  obtain ⟨le57, hs56, h⟩ := zoS_s h
  obtain ⟨a58, ea58, h⟩ := zoB_s h
  refine zr_get F 3 4 zd_XReader_readNode_107 (zW_o hs56 (by decide)) rfl (by decide) zw_228 rfl (by rfl) ?_
  refine zr_tor ea58 ?_
  refine zr_iconstv (v := 3) F zd_XReader_readNode_110 (by decide) ?_
  refine zr_iconstv (v := 3) F zd_XReader_readNode_111 (by decide) ?_
  obtain ⟨le59, hs60, h⟩ := zoS_s h
  obtain ⟨le61, hs62, h⟩ := zoS_s h
  obtain ⟨hc63, h⟩ := zoT_s h
  obtain ⟨mm64, emm64, h⟩ := zoL_s h
  refine zr_copy F zd_XReader_readNode_112 zw_1202 zw_724 zw_723 zw_26 (zW_a0 hs60) (zW_a0 hs62) hc63.1 hc63.2.1 hc63.2.2.1 hc63.2.2.2.1 hc63.2.2.2.2 (Nat.le_of_ble_eq_true rfl) (Nat.le_of_ble_eq_true rfl) ?_
  refine zr_norm (zW tA b sh mm64) _ (by rw [emm64]; exact zW_c hs62) rfl ?_
  refine zr_aload_n F zd_XReader_readNode_115 rfl ?_
  refine zr_bipushv (v := 44) F zd_XReader_readNode_116 (by decide) ?_
  obtain ⟨le66, hs65, h⟩ := zoS_s h
  obtain ⟨p67, ep67, h⟩ := zoB_s h
  refine zr_callV0 F (k_XReader_need l D tA b sh _ ep67) zd_XReader_readNode_118 (zW_o hs65 (by decide)) rfl zs_XReader_45 rfl zq_XReader_need rfl rfl ⟨(Nat.le_of_ble_eq_true rfl), (Nat.le_of_ble_eq_true rfl)⟩ (Nat.le_of_ble_eq_true rfl) ⟨(Nat.le_of_ble_eq_true rfl), (Nat.le_of_ble_eq_true rfl)⟩ ?_
  refine zr_pcn 121 rfl ?_
  refine zr_aload_n F zd_XReader_readNode_121 rfl ?_
  refine zr_ldcS F 29 "size" zd_XReader_readNode_122 (by decide +kernel) ?_
  refine zr_iconstv (v := 3) F zd_XReader_readNode_124 (by decide) ?_
  refine zr_iconstv (v := 3) F zd_XReader_readNode_125 (by decide) ?_
  refine zr_ldc F zd_XReader_readNode_126 zw_1204 ?_
  refine zr_ldc F zd_XReader_readNode_128 zw_1205 ?_
  refine zr_iconstv (v := 0) F zd_XReader_readNode_130 (by decide) ?_
  obtain ⟨le69, hs68, h⟩ := zoS_s h
  obtain ⟨p70, ep70, h⟩ := zoB_s h
  refine zr_callV1 F (k_XReader_numbers l D tA b sh _ ep70) zd_XReader_readNode_131 (zW_o hs68 (by decide)) rfl zs_XReader_160 rfl zq_XReader_numbers rfl rfl ⟨(Nat.le_of_ble_eq_true rfl), (Nat.le_of_ble_eq_true rfl)⟩ (Nat.le_of_ble_eq_true rfl) ⟨(Nat.le_of_ble_eq_true rfl), (Nat.le_of_ble_eq_true rfl)⟩ ?_
  refine zr_pcn 134 rfl ?_
  refine zr_pop F zd_XReader_readNode_134 rfl ?_
  refine zr_aload_n F zd_XReader_readNode_135 rfl ?_
  obtain ⟨le72, hs71, h⟩ := zoS_s h
  obtain ⟨a73, ea73, h⟩ := zoB_s h
  refine zr_get F 7 2 zd_XReader_readNode_136 (zW_o hs71 (by decide)) rfl (by decide) zw_50 rfl (by rfl) ?_
  refine zr_tor ea73 ?_
  refine zr_iconstv (v := 0) F zd_XReader_readNode_139 (by decide) ?_
  refine zr_aload_n F zd_XReader_readNode_140 rfl ?_
  obtain ⟨le75, hs74, h⟩ := zoS_s h
  obtain ⟨a76, ea76, h⟩ := zoB_s h
  refine zr_get F 3 4 zd_XReader_readNode_141 (zW_o hs74 (by decide)) rfl (by decide) zw_228 rfl (by rfl) ?_
  refine zr_tor ea76 ?_
  refine zr_bipushv (v := 6) F zd_XReader_readNode_144 (by decide) ?_
  refine zr_iconstv (v := 3) F zd_XReader_readNode_146 (by decide) ?_
  refine zr_pcn 147 rfl ?_
  obtain ⟨le77, hs78, h⟩ := zoS_s h
  obtain ⟨le79, hs80, h⟩ := zoS_s h
  obtain ⟨hc81, h⟩ := zoT_s h
  obtain ⟨mm82, emm82, h⟩ := zoL_s h
  refine zr_copy F zd_XReader_readNode_147 zw_1202 zw_724 zw_723 zw_26 (zW_a0 hs78) (zW_a0 hs80) hc81.1 hc81.2.1 hc81.2.2.1 hc81.2.2.2.1 hc81.2.2.2.2 (Nat.le_of_ble_eq_true rfl) (Nat.le_of_ble_eq_true rfl) ?_
  refine zr_norm (zW tA b sh mm82) _ (by rw [emm82]; exact zW_c hs80) rfl ?_
  obtain rfl := Option.some.inj h
  exact zr_vret F hr zd_XReader_readNode_150 (Nat.le_of_ble_eq_true rfl) (Nat.le_of_ble_eq_true rfl) ⟨rfl, rfl, rfl⟩
def T_XReader_readNode (sh : zSh) (mm : zMem) (o : Nat) (x0_ : Nat) (x1_ : Int32) : Option zMem := zoS (sh x0_) 3 (fun le2 => zoL (mI mm x0_ 2 0) (fun mm3 => zoS (sh o) 7 (fun le5 => zoX (F_XReader_number sh mm3 o 27 (-1) (x1_ - 1)) (T_XReader_number sh mm3 o 27 (-1) (x1_ - 1)) (fun p6 => zoS (sh x0_) 3 (fun le8 => zoL (mI (p6.2) x0_ 0 (p6.1)) (fun mm9 => zoS (sh o) 7 (fun le11 => zoX (F_XReader_need sh mm9 o 44) (T_XReader_need sh mm9 o 44) (fun p12 => zoS (sh o) 7 (fun le14 => Option.bind (p12.2.2 o 7) (fun a15 => zoS (sh a15) 8 (fun le17 => Option.bind (p12.2.2 a15 0) (fun a18 => zoS (sh a18) 100 (fun le20 => if (2 : Int32) < 0 ∨ le20 ≤ (2 : Int32).toNatClampNeg then none else zoS (sh o) 7 (fun le23 => zoL ((p12.1 a18 (2 : Int32).toNatClampNeg) - 1) (fun x24 => zoX (F_XReader_number sh p12 o 28 (-1) x24) (T_XReader_number sh p12 o 28 (-1) x24) (fun p25 => zoS (sh x0_) 3 (fun le27 => zoL (mI (p25.2) x0_ 1 (p25.1)) (fun mm28 => zoS (sh o) 7 (fun le30 => zoX (F_XReader_need sh mm28 o 44) (T_XReader_need sh mm28 o 44) (fun p31 => zoS (sh o) 7 (fun le33 => zoX (F_XReader_numbers sh p31 o 10 3 3 (-4194304) 4194304 0) (T_XReader_numbers sh p31 o 10 3 3 (-4194304) 4194304 0) (fun p34 => zoS (sh o) 7 (fun le36 => Option.bind ((p34.2).2.2 o 2) (fun a37 => zoS (sh x0_) 3 (fun le39 => Option.bind ((p34.2).2.2 x0_ 4) (fun a40 => zoS (sh a37) 100 (fun le41 => zoS (sh a40) 100 (fun le43 => if ¬ (0 : Int32) < 0 ∧ ¬ (0 : Int32) < 0 ∧ ¬ (3 : Int32) < 0 ∧ (0 : Int32).toNatClampNeg + (3 : Int32).toNatClampNeg ≤ le41 ∧ (0 : Int32).toNatClampNeg + (3 : Int32).toNatClampNeg ≤ le43 then zoL (mC (p34.2) a37 a40 (0 : Int32).toNatClampNeg (0 : Int32).toNatClampNeg (3 : Int32).toNatClampNeg) (fun mm46 => zoS (sh o) 7 (fun le48 => zoX (F_XReader_need sh mm46 o 44) (T_XReader_need sh mm46 o 44) (fun p49 => zoS (sh o) 7 (fun le51 => zoX (F_XReader_numbers sh p49 o 11 3 3 (-1048576) 1048576 0) (T_XReader_numbers sh p49 o 11 3 3 (-1048576) 1048576 0) (fun p52 => zoS (sh o) 7 (fun le54 => Option.bind ((p52.2).2.2 o 2) (fun a55 => zoS (sh x0_) 3 (fun le57 => Option.bind ((p52.2).2.2 x0_ 4) (fun a58 => zoS (sh a55) 100 (fun le59 => zoS (sh a58) 100 (fun le61 => if ¬ (0 : Int32) < 0 ∧ ¬ (3 : Int32) < 0 ∧ ¬ (3 : Int32) < 0 ∧ (0 : Int32).toNatClampNeg + (3 : Int32).toNatClampNeg ≤ le59 ∧ (3 : Int32).toNatClampNeg + (3 : Int32).toNatClampNeg ≤ le61 then zoL (mC (p52.2) a55 a58 (0 : Int32).toNatClampNeg (3 : Int32).toNatClampNeg (3 : Int32).toNatClampNeg) (fun mm64 => zoS (sh o) 7 (fun le66 => zoX (F_XReader_need sh mm64 o 44) (T_XReader_need sh mm64 o 44) (fun p67 => zoS (sh o) 7 (fun le69 => zoX (F_XReader_numbers sh p67 o 29 3 3 (-1048576) 1048576 0) (T_XReader_numbers sh p67 o 29 3 3 (-1048576) 1048576 0) (fun p70 => zoS (sh o) 7 (fun le72 => Option.bind ((p70.2).2.2 o 2) (fun a73 => zoS (sh x0_) 3 (fun le75 => Option.bind ((p70.2).2.2 x0_ 4) (fun a76 => zoS (sh a73) 100 (fun le77 => zoS (sh a76) 100 (fun le79 => if ¬ (0 : Int32) < 0 ∧ ¬ (6 : Int32) < 0 ∧ ¬ (3 : Int32) < 0 ∧ (0 : Int32).toNatClampNeg + (3 : Int32).toNatClampNeg ≤ le77 ∧ (6 : Int32).toNatClampNeg + (3 : Int32).toNatClampNeg ≤ le79 then zoL (mC (p70.2) a73 a76 (0 : Int32).toNatClampNeg (6 : Int32).toNatClampNeg (3 : Int32).toNatClampNeg) (fun mm82 => none) else none))))))))))) else none))))))))))) else none))))))))))))))))))))))))))))
set_option maxHeartbeats 4000000 in
set_option maxRecDepth 100000 in
theorem kT_XReader_readNode (l : Launch) (D : va_G) (tA : Nat → ClassId) (b : Nat) (sh : zSh) (n : Nat) (hl : l.stackTraces = false) {mm : zMem} {o : Nat} {x0_ : Nat} {x1_ : Int32} {r : zMem} (h : T_XReader_readNode sh mm o x0_ x1_ = some r) : zMT l D tA b zy_XReader_readNode zb_XReader_readNode 3 none 9 166 1 6 [.ref (b + o), .ref (b + x0_), .int x1_] (zW tA b sh mm) n "java/lang/IllegalArgumentException" (zW tA b sh r) (n + 1) := by
  unfold T_XReader_readNode at h
  refine zMT_of (own := "OrreryBox$Reader") (plainFor_of_name (by decide)) rfl (Nat.le_of_ble_eq_true rfl) (fun p e s m below meth c F hno hH => ?_)
  refine zr_aload_n F zd_XReader_readNode_0 rfl ?_
  refine zr_iconstv (v := 0) F zd_XReader_readNode_1 (by decide) ?_
  obtain ⟨le2, hs1, h⟩ := zoS_s h
  refine zr_put F 3 2 zd_XReader_readNode_2 (zW_o hs1 (by decide)) rfl (by decide) zw_221 rfl rfl rfl rfl (by exact (Nat.le_of_ble_eq_true rfl)) ?_
  obtain ⟨mm3, emm3, h⟩ := zoL_s h
  refine zr_norm (zW tA b sh mm3) _ (by rw [emm3]; exact zW_pI (v := 0) hs1 (by decide) (zf_I_3_2 b _ _ _)) rfl ?_
  refine zr_aload_n F zd_XReader_readNode_5 rfl ?_
  refine zr_aload_n F zd_XReader_readNode_6 rfl ?_
  refine zr_ldcS F 27 "parent" zd_XReader_readNode_7 (by decide +kernel) ?_
  refine zr_iconstv (v := (-1)) F zd_XReader_readNode_9 (by decide) ?_
  refine zr_pcn 10 rfl ?_
  refine zr_iload_n F zd_XReader_readNode_10 rfl ?_
  refine zr_iconstv (v := 1) F zd_XReader_readNode_11 (by decide) ?_
  refine zr_isub F zd_XReader_readNode_12 ?_
  obtain ⟨le5, hs4, h⟩ := zoS_s h
  cases ep6 : F_XReader_number sh mm3 o 27 (-1) (x1_ - 1) with
  | none =>
    rw [ep6] at h
    dsimp only [zoX] at h
    exact zr_thrV F hno (kT_XReader_number l D tA b sh _ hl h) zd_XReader_readNode_13 (zW_o hs4 (by decide)) rfl zs_XReader_138 rfl zq_XReader_number rfl rfl ⟨(Nat.le_of_ble_eq_true rfl), (Nat.le_of_ble_eq_true rfl)⟩ (Nat.le_of_ble_eq_true rfl) ⟨(Nat.le_of_ble_eq_true rfl), (Nat.le_of_ble_eq_true rfl)⟩ ⟨(Nat.le_of_ble_eq_true rfl), (Nat.le_of_ble_eq_true rfl)⟩
  | some p6 =>
    rw [ep6] at h
    dsimp only [zoX] at h
    refine zr_callV1 F (k_XReader_number l D tA b sh _ ep6) zd_XReader_readNode_13 (zW_o hs4 (by decide)) rfl zs_XReader_138 rfl zq_XReader_number rfl rfl ⟨(Nat.le_of_ble_eq_true rfl), (Nat.le_of_ble_eq_true rfl)⟩ (Nat.le_of_ble_eq_true rfl) ⟨(Nat.le_of_ble_eq_true rfl), (Nat.le_of_ble_eq_true rfl)⟩ ?_
    obtain ⟨le8, hs7, h⟩ := zoS_s h
    refine zr_put F 3 0 zd_XReader_readNode_16 (zW_o hs7 (by decide)) rfl (by decide) zw_215 rfl rfl rfl rfl (by exact (Nat.le_of_ble_eq_true rfl)) ?_
    obtain ⟨mm9, emm9, h⟩ := zoL_s h
    refine zr_norm (zW tA b sh mm9) _ (by rw [emm9]; exact zW_pI (v := (p6.1)) hs7 (by decide) (zf_I_3_0 b _ _ _)) rfl ?_
    refine zr_aload_n F zd_XReader_readNode_19 rfl ?_
    refine zr_bipushv (v := 44) F zd_XReader_readNode_20 (by decide) ?_
    obtain ⟨le11, hs10, h⟩ := zoS_s h
    cases ep12 : F_XReader_need sh mm9 o 44 with
    | none =>
      rw [ep12] at h
      dsimp only [zoX] at h
      exact zr_thrV F hno (kT_XReader_need l D tA b sh _ hl h) zd_XReader_readNode_22 (zW_o hs10 (by decide)) rfl zs_XReader_45 rfl zq_XReader_need rfl rfl ⟨(Nat.le_of_ble_eq_true rfl), (Nat.le_of_ble_eq_true rfl)⟩ (Nat.le_of_ble_eq_true rfl) ⟨(Nat.le_of_ble_eq_true rfl), (Nat.le_of_ble_eq_true rfl)⟩ ⟨(Nat.le_of_ble_eq_true rfl), (Nat.le_of_ble_eq_true rfl)⟩
    | some p12 =>
      rw [ep12] at h
      dsimp only [zoX] at h
      refine zr_callV0 F (k_XReader_need l D tA b sh _ ep12) zd_XReader_readNode_22 (zW_o hs10 (by decide)) rfl zs_XReader_45 rfl zq_XReader_need rfl rfl ⟨(Nat.le_of_ble_eq_true rfl), (Nat.le_of_ble_eq_true rfl)⟩ (Nat.le_of_ble_eq_true rfl) ⟨(Nat.le_of_ble_eq_true rfl), (Nat.le_of_ble_eq_true rfl)⟩ ?_
      refine zr_pcn 25 rfl ?_
      refine zr_aload_n F zd_XReader_readNode_25 rfl ?_
      refine zr_aload_n F zd_XReader_readNode_26 rfl ?_
      refine zr_ldcS F 28 "mesh" zd_XReader_readNode_27 (by decide +kernel) ?_
      refine zr_iconstv (v := (-1)) F zd_XReader_readNode_29 (by decide) ?_
      refine zr_aload_n F zd_XReader_readNode_30 rfl ?_
      obtain ⟨le14, hs13, h⟩ := zoS_s h
      obtain ⟨a15, ea15, h⟩ := zoB_s h
      refine zr_get F 7 7 zd_XReader_readNode_31 (zW_o hs13 (by decide)) rfl (by decide) zw_55 rfl (by rfl) ?_
      refine zr_tor ea15 ?_
      obtain ⟨le17, hs16, h⟩ := zoS_s h
      obtain ⟨a18, ea18, h⟩ := zoB_s h
      refine zr_get F 8 0 zd_XReader_readNode_34 (zW_o hs16 (by decide)) rfl (by decide) zw_284 rfl (by rfl) ?_
      refine zr_tor ea18 ?_
      refine zr_iconstv (v := 2) F zd_XReader_readNode_37 (by decide) ?_
      refine zr_pcn 38 rfl ?_
      obtain ⟨le20, hs19, h⟩ := zoS_s h
      obtain ⟨hi21, h⟩ := zoI_s h
      refine zr_iald F zd_XReader_readNode_38 (zW_a0 hs19) hi21 ?_
      refine zr_iconstv (v := 1) F zd_XReader_readNode_39 (by decide) ?_
      refine zr_isub F zd_XReader_readNode_40 ?_
      obtain ⟨le23, hs22, h⟩ := zoS_s h
      obtain ⟨x24, ex24, h⟩ := zoL_s h
      rw [← ex24]
      cases ep25 : F_XReader_number sh p12 o 28 (-1) x24 with
      | none =>
        rw [ep25] at h
        dsimp only [zoX] at h
        exact zr_thrV F hno (kT_XReader_number l D tA b sh _ hl h) zd_XReader_readNode_41 (zW_o hs22 (by decide)) rfl zs_XReader_138 rfl zq_XReader_number rfl rfl ⟨(Nat.le_of_ble_eq_true rfl), (Nat.le_of_ble_eq_true rfl)⟩ (Nat.le_of_ble_eq_true rfl) ⟨(Nat.le_of_ble_eq_true rfl), (Nat.le_of_ble_eq_true rfl)⟩ ⟨(Nat.le_of_ble_eq_true rfl), (Nat.le_of_ble_eq_true rfl)⟩
      | some p25 =>
        rw [ep25] at h
        dsimp only [zoX] at h
        refine zr_callV1 F (k_XReader_number l D tA b sh _ ep25) zd_XReader_readNode_41 (zW_o hs22 (by decide)) rfl zs_XReader_138 rfl zq_XReader_number rfl rfl ⟨(Nat.le_of_ble_eq_true rfl), (Nat.le_of_ble_eq_true rfl)⟩ (Nat.le_of_ble_eq_true rfl) ⟨(Nat.le_of_ble_eq_true rfl), (Nat.le_of_ble_eq_true rfl)⟩ ?_
        obtain ⟨le27, hs26, h⟩ := zoS_s h
        refine zr_put F 3 1 zd_XReader_readNode_44 (zW_o hs26 (by decide)) rfl (by decide) zw_219 rfl rfl rfl rfl (by exact (Nat.le_of_ble_eq_true rfl)) ?_
        obtain ⟨mm28, emm28, h⟩ := zoL_s h
        refine zr_norm (zW tA b sh mm28) _ (by rw [emm28]; exact zW_pI (v := (p25.1)) hs26 (by decide) (zf_I_3_1 b _ _ _)) rfl ?_
        refine zr_aload_n F zd_XReader_readNode_47 rfl ?_
        refine zr_bipushv (v := 44) F zd_XReader_readNode_48 (by decide) ?_
        obtain ⟨le30, hs29, h⟩ := zoS_s h
        cases ep31 : F_XReader_need sh mm28 o 44 with
        | none =>
          rw [ep31] at h
          dsimp only [zoX] at h
          exact zr_thrV F hno (kT_XReader_need l D tA b sh _ hl h) zd_XReader_readNode_50 (zW_o hs29 (by decide)) rfl zs_XReader_45 rfl zq_XReader_need rfl rfl ⟨(Nat.le_of_ble_eq_true rfl), (Nat.le_of_ble_eq_true rfl)⟩ (Nat.le_of_ble_eq_true rfl) ⟨(Nat.le_of_ble_eq_true rfl), (Nat.le_of_ble_eq_true rfl)⟩ ⟨(Nat.le_of_ble_eq_true rfl), (Nat.le_of_ble_eq_true rfl)⟩
        | some p31 =>
          rw [ep31] at h
          dsimp only [zoX] at h
          refine zr_callV0 F (k_XReader_need l D tA b sh _ ep31) zd_XReader_readNode_50 (zW_o hs29 (by decide)) rfl zs_XReader_45 rfl zq_XReader_need rfl rfl ⟨(Nat.le_of_ble_eq_true rfl), (Nat.le_of_ble_eq_true rfl)⟩ (Nat.le_of_ble_eq_true rfl) ⟨(Nat.le_of_ble_eq_true rfl), (Nat.le_of_ble_eq_true rfl)⟩ ?_
          refine zr_pcn 53 rfl ?_
          refine zr_aload_n F zd_XReader_readNode_53 rfl ?_
          refine zr_ldcS F 10 "move" zd_XReader_readNode_54 (by decide +kernel) ?_
          refine zr_iconstv (v := 3) F zd_XReader_readNode_56 (by decide) ?_
          refine zr_iconstv (v := 3) F zd_XReader_readNode_57 (by decide) ?_
          refine zr_ldc F zd_XReader_readNode_58 zw_1185 ?_
          refine zr_ldc F zd_XReader_readNode_60 zw_1186 ?_
          refine zr_iconstv (v := 0) F zd_XReader_readNode_62 (by decide) ?_
          obtain ⟨le33, hs32, h⟩ := zoS_s h
          cases ep34 : F_XReader_numbers sh p31 o 10 3 3 (-4194304) 4194304 0 with
          | none =>
            rw [ep34] at h
            dsimp only [zoX] at h
            exact zr_thrV F hno (kT_XReader_numbers l D tA b sh _ hl h) zd_XReader_readNode_63 (zW_o hs32 (by decide)) rfl zs_XReader_160 rfl zq_XReader_numbers rfl rfl ⟨(Nat.le_of_ble_eq_true rfl), (Nat.le_of_ble_eq_true rfl)⟩ (Nat.le_of_ble_eq_true rfl) ⟨(Nat.le_of_ble_eq_true rfl), (Nat.le_of_ble_eq_true rfl)⟩ ⟨(Nat.le_of_ble_eq_true rfl), (Nat.le_of_ble_eq_true rfl)⟩
          | some p34 =>
            rw [ep34] at h
            dsimp only [zoX] at h
            refine zr_callV1 F (k_XReader_numbers l D tA b sh _ ep34) zd_XReader_readNode_63 (zW_o hs32 (by decide)) rfl zs_XReader_160 rfl zq_XReader_numbers rfl rfl ⟨(Nat.le_of_ble_eq_true rfl), (Nat.le_of_ble_eq_true rfl)⟩ (Nat.le_of_ble_eq_true rfl) ⟨(Nat.le_of_ble_eq_true rfl), (Nat.le_of_ble_eq_true rfl)⟩ ?_
            refine zr_pcn 66 rfl ?_
            refine zr_pop F zd_XReader_readNode_66 rfl ?_
            refine zr_aload_n F zd_XReader_readNode_67 rfl ?_
            obtain ⟨le36, hs35, h⟩ := zoS_s h
            obtain ⟨a37, ea37, h⟩ := zoB_s h
            refine zr_get F 7 2 zd_XReader_readNode_68 (zW_o hs35 (by decide)) rfl (by decide) zw_50 rfl (by rfl) ?_
            refine zr_tor ea37 ?_
            refine zr_iconstv (v := 0) F zd_XReader_readNode_71 (by decide) ?_
            refine zr_aload_n F zd_XReader_readNode_72 rfl ?_
            obtain ⟨le39, hs38, h⟩ := zoS_s h
            obtain ⟨a40, ea40, h⟩ := zoB_s h
            refine zr_get F 3 4 zd_XReader_readNode_73 (zW_o hs38 (by decide)) rfl (by decide) zw_228 rfl (by rfl) ?_
            refine zr_tor ea40 ?_
            refine zr_iconstv (v := 0) F zd_XReader_readNode_76 (by decide) ?_
            refine zr_iconstv (v := 3) F zd_XReader_readNode_77 (by decide) ?_
            refine zr_pcn 78 rfl ?_
            obtain ⟨le41, hs42, h⟩ := zoS_s h
            obtain ⟨le43, hs44, h⟩ := zoS_s h
            obtain ⟨hc45, h⟩ := zoT_s h
            obtain ⟨mm46, emm46, h⟩ := zoL_s h
            refine zr_copy F zd_XReader_readNode_78 zw_1202 zw_724 zw_723 zw_26 (zW_a0 hs42) (zW_a0 hs44) hc45.1 hc45.2.1 hc45.2.2.1 hc45.2.2.2.1 hc45.2.2.2.2 (Nat.le_of_ble_eq_true rfl) (Nat.le_of_ble_eq_true rfl) ?_
            refine zr_norm (zW tA b sh mm46) _ (by rw [emm46]; exact zW_c hs44) rfl ?_
            refine zr_aload_n F zd_XReader_readNode_81 rfl ?_
            refine zr_bipushv (v := 44) F zd_XReader_readNode_82 (by decide) ?_
            obtain ⟨le48, hs47, h⟩ := zoS_s h
            cases ep49 : F_XReader_need sh mm46 o 44 with
            | none =>
              rw [ep49] at h
              dsimp only [zoX] at h
              exact zr_thrV F hno (kT_XReader_need l D tA b sh _ hl h) zd_XReader_readNode_84 (zW_o hs47 (by decide)) rfl zs_XReader_45 rfl zq_XReader_need rfl rfl ⟨(Nat.le_of_ble_eq_true rfl), (Nat.le_of_ble_eq_true rfl)⟩ (Nat.le_of_ble_eq_true rfl) ⟨(Nat.le_of_ble_eq_true rfl), (Nat.le_of_ble_eq_true rfl)⟩ ⟨(Nat.le_of_ble_eq_true rfl), (Nat.le_of_ble_eq_true rfl)⟩
            | some p49 =>
              rw [ep49] at h
              dsimp only [zoX] at h
              refine zr_callV0 F (k_XReader_need l D tA b sh _ ep49) zd_XReader_readNode_84 (zW_o hs47 (by decide)) rfl zs_XReader_45 rfl zq_XReader_need rfl rfl ⟨(Nat.le_of_ble_eq_true rfl), (Nat.le_of_ble_eq_true rfl)⟩ (Nat.le_of_ble_eq_true rfl) ⟨(Nat.le_of_ble_eq_true rfl), (Nat.le_of_ble_eq_true rfl)⟩ ?_
              refine zr_aload_n F zd_XReader_readNode_87 rfl ?_
              refine zr_ldcS F 11 "turn" zd_XReader_readNode_88 (by decide +kernel) ?_
              refine zr_iconstv (v := 3) F zd_XReader_readNode_90 (by decide) ?_
              refine zr_iconstv (v := 3) F zd_XReader_readNode_91 (by decide) ?_
              refine zr_pcn 92 rfl ?_
              refine zr_ldc F zd_XReader_readNode_92 zw_1204 ?_
              refine zr_ldc F zd_XReader_readNode_94 zw_1205 ?_
              refine zr_iconstv (v := 0) F zd_XReader_readNode_96 (by decide) ?_
              obtain ⟨le51, hs50, h⟩ := zoS_s h
              cases ep52 : F_XReader_numbers sh p49 o 11 3 3 (-1048576) 1048576 0 with
              | none =>
                rw [ep52] at h
                dsimp only [zoX] at h
                exact zr_thrV F hno (kT_XReader_numbers l D tA b sh _ hl h) zd_XReader_readNode_97 (zW_o hs50 (by decide)) rfl zs_XReader_160 rfl zq_XReader_numbers rfl rfl ⟨(Nat.le_of_ble_eq_true rfl), (Nat.le_of_ble_eq_true rfl)⟩ (Nat.le_of_ble_eq_true rfl) ⟨(Nat.le_of_ble_eq_true rfl), (Nat.le_of_ble_eq_true rfl)⟩ ⟨(Nat.le_of_ble_eq_true rfl), (Nat.le_of_ble_eq_true rfl)⟩
              | some p52 =>
                rw [ep52] at h
                dsimp only [zoX] at h
                refine zr_callV1 F (k_XReader_numbers l D tA b sh _ ep52) zd_XReader_readNode_97 (zW_o hs50 (by decide)) rfl zs_XReader_160 rfl zq_XReader_numbers rfl rfl ⟨(Nat.le_of_ble_eq_true rfl), (Nat.le_of_ble_eq_true rfl)⟩ (Nat.le_of_ble_eq_true rfl) ⟨(Nat.le_of_ble_eq_true rfl), (Nat.le_of_ble_eq_true rfl)⟩ ?_
                refine zr_pop F zd_XReader_readNode_100 rfl ?_
                refine zr_aload_n F zd_XReader_readNode_101 rfl ?_
                obtain ⟨le54, hs53, h⟩ := zoS_s h
                obtain ⟨a55, ea55, h⟩ := zoB_s h
                refine zr_get F 7 2 zd_XReader_readNode_102 (zW_o hs53 (by decide)) rfl (by decide) zw_50 rfl (by rfl) ?_
                refine zr_tor ea55 ?_
                refine zr_iconstv (v := 0) F zd_XReader_readNode_105 (by decide) ?_
                refine zr_pcn 106 rfl ?_
                refine zr_aload_n F zd_XReader_readNode_106 rfl ?_
                obtain ⟨le57, hs56, h⟩ := zoS_s h
                obtain ⟨a58, ea58, h⟩ := zoB_s h
                refine zr_get F 3 4 zd_XReader_readNode_107 (zW_o hs56 (by decide)) rfl (by decide) zw_228 rfl (by rfl) ?_
                refine zr_tor ea58 ?_
                refine zr_iconstv (v := 3) F zd_XReader_readNode_110 (by decide) ?_
                refine zr_iconstv (v := 3) F zd_XReader_readNode_111 (by decide) ?_
                obtain ⟨le59, hs60, h⟩ := zoS_s h
                obtain ⟨le61, hs62, h⟩ := zoS_s h
                obtain ⟨hc63, h⟩ := zoT_s h
                obtain ⟨mm64, emm64, h⟩ := zoL_s h
                refine zr_copy F zd_XReader_readNode_112 zw_1202 zw_724 zw_723 zw_26 (zW_a0 hs60) (zW_a0 hs62) hc63.1 hc63.2.1 hc63.2.2.1 hc63.2.2.2.1 hc63.2.2.2.2 (Nat.le_of_ble_eq_true rfl) (Nat.le_of_ble_eq_true rfl) ?_
                refine zr_norm (zW tA b sh mm64) _ (by rw [emm64]; exact zW_c hs62) rfl ?_
                refine zr_aload_n F zd_XReader_readNode_115 rfl ?_
                refine zr_bipushv (v := 44) F zd_XReader_readNode_116 (by decide) ?_
                obtain ⟨le66, hs65, h⟩ := zoS_s h
                cases ep67 : F_XReader_need sh mm64 o 44 with
                | none =>
                  rw [ep67] at h
                  dsimp only [zoX] at h
                  exact zr_thrV F hno (kT_XReader_need l D tA b sh _ hl h) zd_XReader_readNode_118 (zW_o hs65 (by decide)) rfl zs_XReader_45 rfl zq_XReader_need rfl rfl ⟨(Nat.le_of_ble_eq_true rfl), (Nat.le_of_ble_eq_true rfl)⟩ (Nat.le_of_ble_eq_true rfl) ⟨(Nat.le_of_ble_eq_true rfl), (Nat.le_of_ble_eq_true rfl)⟩ ⟨(Nat.le_of_ble_eq_true rfl), (Nat.le_of_ble_eq_true rfl)⟩
                | some p67 =>
                  rw [ep67] at h
                  dsimp only [zoX] at h
                  refine zr_callV0 F (k_XReader_need l D tA b sh _ ep67) zd_XReader_readNode_118 (zW_o hs65 (by decide)) rfl zs_XReader_45 rfl zq_XReader_need rfl rfl ⟨(Nat.le_of_ble_eq_true rfl), (Nat.le_of_ble_eq_true rfl)⟩ (Nat.le_of_ble_eq_true rfl) ⟨(Nat.le_of_ble_eq_true rfl), (Nat.le_of_ble_eq_true rfl)⟩ ?_
                  refine zr_pcn 121 rfl ?_
                  refine zr_aload_n F zd_XReader_readNode_121 rfl ?_
                  refine zr_ldcS F 29 "size" zd_XReader_readNode_122 (by decide +kernel) ?_
                  refine zr_iconstv (v := 3) F zd_XReader_readNode_124 (by decide) ?_
                  refine zr_iconstv (v := 3) F zd_XReader_readNode_125 (by decide) ?_
                  refine zr_ldc F zd_XReader_readNode_126 zw_1204 ?_
                  refine zr_ldc F zd_XReader_readNode_128 zw_1205 ?_
                  refine zr_iconstv (v := 0) F zd_XReader_readNode_130 (by decide) ?_
                  obtain ⟨le69, hs68, h⟩ := zoS_s h
                  cases ep70 : F_XReader_numbers sh p67 o 29 3 3 (-1048576) 1048576 0 with
                  | none =>
                    rw [ep70] at h
                    dsimp only [zoX] at h
                    exact zr_thrV F hno (kT_XReader_numbers l D tA b sh _ hl h) zd_XReader_readNode_131 (zW_o hs68 (by decide)) rfl zs_XReader_160 rfl zq_XReader_numbers rfl rfl ⟨(Nat.le_of_ble_eq_true rfl), (Nat.le_of_ble_eq_true rfl)⟩ (Nat.le_of_ble_eq_true rfl) ⟨(Nat.le_of_ble_eq_true rfl), (Nat.le_of_ble_eq_true rfl)⟩ ⟨(Nat.le_of_ble_eq_true rfl), (Nat.le_of_ble_eq_true rfl)⟩
                  | some p70 =>
                    rw [ep70] at h
                    dsimp only [zoX] at h
                    refine zr_callV1 F (k_XReader_numbers l D tA b sh _ ep70) zd_XReader_readNode_131 (zW_o hs68 (by decide)) rfl zs_XReader_160 rfl zq_XReader_numbers rfl rfl ⟨(Nat.le_of_ble_eq_true rfl), (Nat.le_of_ble_eq_true rfl)⟩ (Nat.le_of_ble_eq_true rfl) ⟨(Nat.le_of_ble_eq_true rfl), (Nat.le_of_ble_eq_true rfl)⟩ ?_
                    refine zr_pcn 134 rfl ?_
                    refine zr_pop F zd_XReader_readNode_134 rfl ?_
                    refine zr_aload_n F zd_XReader_readNode_135 rfl ?_
                    obtain ⟨le72, hs71, h⟩ := zoS_s h
                    obtain ⟨a73, ea73, h⟩ := zoB_s h
                    refine zr_get F 7 2 zd_XReader_readNode_136 (zW_o hs71 (by decide)) rfl (by decide) zw_50 rfl (by rfl) ?_
                    refine zr_tor ea73 ?_
                    refine zr_iconstv (v := 0) F zd_XReader_readNode_139 (by decide) ?_
                    refine zr_aload_n F zd_XReader_readNode_140 rfl ?_
                    obtain ⟨le75, hs74, h⟩ := zoS_s h
                    obtain ⟨a76, ea76, h⟩ := zoB_s h
                    refine zr_get F 3 4 zd_XReader_readNode_141 (zW_o hs74 (by decide)) rfl (by decide) zw_228 rfl (by rfl) ?_
                    refine zr_tor ea76 ?_
                    refine zr_bipushv (v := 6) F zd_XReader_readNode_144 (by decide) ?_
                    refine zr_iconstv (v := 3) F zd_XReader_readNode_146 (by decide) ?_
                    refine zr_pcn 147 rfl ?_
                    obtain ⟨le77, hs78, h⟩ := zoS_s h
                    obtain ⟨le79, hs80, h⟩ := zoS_s h
                    obtain ⟨hc81, h⟩ := zoT_s h
                    obtain ⟨mm82, emm82, h⟩ := zoL_s h
                    refine zr_copy F zd_XReader_readNode_147 zw_1202 zw_724 zw_723 zw_26 (zW_a0 hs78) (zW_a0 hs80) hc81.1 hc81.2.1 hc81.2.2.1 hc81.2.2.2.1 hc81.2.2.2.2 (Nat.le_of_ble_eq_true rfl) (Nat.le_of_ble_eq_true rfl) ?_
                    refine zr_norm (zW tA b sh mm82) _ (by rw [emm82]; exact zW_c hs80) rfl ?_
                    cases h
