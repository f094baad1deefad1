abbrev zb_XPacker_write : ByteArray := prog_5_method_2_code
def zy_XPacker_write : MethodName := ⟨"OrreryBox$Packer", "write", "([III)V"⟩
theorem zc_XPacker_write : Cond.code zy_XPacker_write zb_XPacker_write 5 none ∈ gw := gw_t 907 (by decide +kernel) rfl
theorem zq_XPacker_write : zy_XPacker_write.cls ≠ "java/lang/invoke/MethodHandle" ∧ zy_XPacker_write.cls ≠ "java/lang/invoke/VarHandle" ∧ (parseMethodDescriptor zy_XPacker_write.desc).map (fun d => d.parameters.length) = some 3 := by decide +kernel
theorem zd_XPacker_write_0 : decode zb_XPacker_write 0 = .ok (.aload_n 0, 1) := by decide +kernel
theorem zd_XPacker_write_1 : decode zb_XPacker_write 1 = .ok (.aload_n 1, 1) := by decide +kernel
theorem zd_XPacker_write_2 : decode zb_XPacker_write 2 = .ok (.iload_n 2, 1) := by decide +kernel
theorem zd_XPacker_write_3 : decode zb_XPacker_write 3 = .ok (.iload_n 3, 1) := by decide +kernel
theorem zd_XPacker_write_4 : decode zb_XPacker_write 4 = .ok (.imul, 1) := by decide +kernel
theorem zd_XPacker_write_5 : decode zb_XPacker_write 5 = .ok (.invokevirtual 28, 3) := by decide +kernel
theorem zd_XPacker_write_8 : decode zb_XPacker_write 8 = .ok (.aload_n 0, 1) := by decide +kernel
theorem zd_XPacker_write_9 : decode zb_XPacker_write 9 = .ok (.iconst 3, 1) := by decide +kernel
theorem zd_XPacker_write_10 : decode zb_XPacker_write 10 = .ok (.iload_n 2, 1) := by decide +kernel
theorem zd_XPacker_write_11 : decode zb_XPacker_write 11 = .ok (.imul, 1) := by decide +kernel
theorem zd_XPacker_write_12 : decode zb_XPacker_write 12 = .ok (.iload_n 3, 1) := by decide +kernel
theorem zd_XPacker_write_13 : decode zb_XPacker_write 13 = .ok (.invokevirtual 32, 3) := by decide +kernel
theorem zd_XPacker_write_16 : decode zb_XPacker_write 16 = .ok (.aload_n 0, 1) := by decide +kernel
theorem zd_XPacker_write_17 : decode zb_XPacker_write 17 = .ok (.iconst 0, 1) := by decide +kernel
theorem zd_XPacker_write_18 : decode zb_XPacker_write 18 = .ok (.putfield 36, 3) := by decide +kernel
theorem zd_XPacker_write_21 : decode zb_XPacker_write 21 = .ok (.aload_n 0, 1) := by decide +kernel
theorem zd_XPacker_write_22 : decode zb_XPacker_write 22 = .ok (.ldc 40, 2) := by decide +kernel
theorem zd_XPacker_write_24 : decode zb_XPacker_write 24 = .ok (.invokevirtual 41, 3) := by decide +kernel
theorem zd_XPacker_write_27 : decode zb_XPacker_write 27 = .ok (.aload_n 0, 1) := by decide +kernel
theorem zd_XPacker_write_28 : decode zb_XPacker_write 28 = .ok (.ldc 45, 2) := by decide +kernel
theorem zd_XPacker_write_30 : decode zb_XPacker_write 30 = .ok (.invokevirtual 41, 3) := by decide +kernel
theorem zd_XPacker_write_33 : decode zb_XPacker_write 33 = .ok (.aload_n 0, 1) := by decide +kernel
theorem zd_XPacker_write_34 : decode zb_XPacker_write 34 = .ok (.ldc 46, 2) := by decide +kernel
theorem zd_XPacker_write_36 : decode zb_XPacker_write 36 = .ok (.invokevirtual 48, 3) := by decide +kernel
theorem zd_XPacker_write_39 : decode zb_XPacker_write 39 = .ok (.istore 4, 2) := by decide +kernel
theorem zd_XPacker_write_41 : decode zb_XPacker_write 41 = .ok (.aload_n 0, 1) := by decide +kernel
theorem zd_XPacker_write_42 : decode zb_XPacker_write 42 = .ok (.iload_n 2, 1) := by decide +kernel
theorem zd_XPacker_write_43 : decode zb_XPacker_write 43 = .ok (.invokevirtual 41, 3) := by decide +kernel
theorem zd_XPacker_write_46 : decode zb_XPacker_write 46 = .ok (.aload_n 0, 1) := by decide +kernel
theorem zd_XPacker_write_47 : decode zb_XPacker_write 47 = .ok (.iload_n 3, 1) := by decide +kernel
theorem zd_XPacker_write_48 : decode zb_XPacker_write 48 = .ok (.invokevirtual 41, 3) := by decide +kernel
theorem zd_XPacker_write_51 : decode zb_XPacker_write 51 = .ok (.aload_n 0, 1) := by decide +kernel
theorem zd_XPacker_write_52 : decode zb_XPacker_write 52 = .ok (.ldc 52, 2) := by decide +kernel
theorem zd_XPacker_write_54 : decode zb_XPacker_write 54 = .ok (.invokevirtual 41, 3) := by decide +kernel
theorem zd_XPacker_write_57 : decode zb_XPacker_write 57 = .ok (.aload_n 0, 1) := by decide +kernel
theorem zd_XPacker_write_58 : decode zb_XPacker_write 58 = .ok (.iconst 0, 1) := by decide +kernel
theorem zd_XPacker_write_59 : decode zb_XPacker_write 59 = .ok (.invokevirtual 53, 3) := by decide +kernel
theorem zd_XPacker_write_62 : decode zb_XPacker_write 62 = .ok (.aload_n 0, 1) := by decide +kernel
theorem zd_XPacker_write_63 : decode zb_XPacker_write 63 = .ok (.iload 4, 2) := by decide +kernel
theorem zd_XPacker_write_65 : decode zb_XPacker_write 65 = .ok (.invokevirtual 56, 3) := by decide +kernel
theorem zd_XPacker_write_68 : decode zb_XPacker_write 68 = .ok (.aload_n 0, 1) := by decide +kernel
theorem zd_XPacker_write_69 : decode zb_XPacker_write 69 = .ok (.ldc 59, 2) := by decide +kernel
theorem zd_XPacker_write_71 : decode zb_XPacker_write 71 = .ok (.invokevirtual 48, 3) := by decide +kernel
theorem zd_XPacker_write_74 : decode zb_XPacker_write 74 = .ok (.istore 4, 2) := by decide +kernel
theorem zd_XPacker_write_76 : decode zb_XPacker_write 76 = .ok (.aload_n 0, 1) := by decide +kernel
theorem zd_XPacker_write_77 : decode zb_XPacker_write 77 = .ok (.bipush 120, 2) := by decide +kernel
theorem zd_XPacker_write_79 : decode zb_XPacker_write 79 = .ok (.invokevirtual 53, 3) := by decide +kernel
theorem zd_XPacker_write_82 : decode zb_XPacker_write 82 = .ok (.aload_n 0, 1) := by decide +kernel
theorem zd_XPacker_write_83 : decode zb_XPacker_write 83 = .ok (.iconst 1, 1) := by decide +kernel
theorem zd_XPacker_write_84 : decode zb_XPacker_write 84 = .ok (.invokevirtual 53, 3) := by decide +kernel
theorem zd_XPacker_write_87 : decode zb_XPacker_write 87 = .ok (.aload_n 0, 1) := by decide +kernel
theorem zd_XPacker_write_88 : decode zb_XPacker_write 88 = .ok (.invokevirtual 61, 3) := by decide +kernel
theorem zd_XPacker_write_91 : decode zb_XPacker_write 91 = .ok (.aload_n 0, 1) := by decide +kernel
theorem zd_XPacker_write_92 : decode zb_XPacker_write 92 = .ok (.aload_n 0, 1) := by decide +kernel
theorem zd_XPacker_write_93 : decode zb_XPacker_write 93 = .ok (.invokevirtual 64, 3) := by decide +kernel
theorem zd_XPacker_write_96 : decode zb_XPacker_write 96 = .ok (.invokevirtual 41, 3) := by decide +kernel
theorem zd_XPacker_write_99 : decode zb_XPacker_write 99 = .ok (.aload_n 0, 1) := by decide +kernel
theorem zd_XPacker_write_100 : decode zb_XPacker_write 100 = .ok (.iload 4, 2) := by decide +kernel
theorem zd_XPacker_write_102 : decode zb_XPacker_write 102 = .ok (.invokevirtual 56, 3) := by decide +kernel
theorem zd_XPacker_write_105 : decode zb_XPacker_write 105 = .ok (.aload_n 0, 1) := by decide +kernel
theorem zd_XPacker_write_106 : decode zb_XPacker_write 106 = .ok (.aload_n 0, 1) := by decide +kernel
theorem zd_XPacker_write_107 : decode zb_XPacker_write 107 = .ok (.ldc 68, 2) := by decide +kernel
theorem zd_XPacker_write_109 : decode zb_XPacker_write 109 = .ok (.invokevirtual 48, 3) := by decide +kernel
theorem zd_XPacker_write_112 : decode zb_XPacker_write 112 = .ok (.invokevirtual 56, 3) := by decide +kernel
theorem zd_XPacker_write_115 : decode zb_XPacker_write 115 = .ok (.return_, 1) := by decide +kernel
theorem zw_908 : (Jvm.Cond.methodLink "OrreryBox$Packer" (28 : Nat) ({ cls := "OrreryBox$Packer", name := "makeRaw", desc := "([II)V" } : Jvm.MethodName)) ∈ gw := gw_t 908 (by decide +kernel) rfl
theorem zw_910 : (Jvm.Cond.instanceMethod ({ cls := "OrreryBox$Packer", name := "makeRaw", desc := "([II)V" } : Jvm.MethodName)) ∈ gw := gw_t 910 (by decide +kernel) rfl
theorem zv_26 : (Jvm.Cond.selects "OrreryBox$Packer" (⟨"OrreryBox$Packer", "makeRaw", "([II)V"⟩ : MethodName) ⟨"OrreryBox$Packer", "makeRaw", "([II)V"⟩) ∈ gw := gw_s 26 (by decide +kernel) rfl
theorem zs_XPacker_28 : zwV "OrreryBox$Packer" 28 "OrreryBox$Packer" zy_XPacker_makeRaw zb_XPacker_makeRaw 4 none := ⟨zw_908, zw_910, zv_26, zw_3, zc_XPacker_makeRaw⟩
theorem zw_912 : (Jvm.Cond.methodLink "OrreryBox$Packer" (32 : Nat) ({ cls := "OrreryBox$Packer", name := "makeRows", desc := "(II)V" } : Jvm.MethodName)) ∈ gw := gw_t 912 (by decide +kernel) rfl
theorem zw_914 : (Jvm.Cond.instanceMethod ({ cls := "OrreryBox$Packer", name := "makeRows", desc := "(II)V" } : Jvm.MethodName)) ∈ gw := gw_t 914 (by decide +kernel) rfl
theorem zv_27 : (Jvm.Cond.selects "OrreryBox$Packer" (⟨"OrreryBox$Packer", "makeRows", "(II)V"⟩ : MethodName) ⟨"OrreryBox$Packer", "makeRows", "(II)V"⟩) ∈ gw := gw_s 27 (by decide +kernel) rfl
theorem zs_XPacker_32 : zwV "OrreryBox$Packer" 32 "OrreryBox$Packer" zy_XPacker_makeRows zb_XPacker_makeRows 6 none := ⟨zw_912, zw_914, zv_27, zw_3, zc_XPacker_makeRows⟩
theorem zw_935 : (Jvm.Cond.constant "OrreryBox$Packer" (40 : Nat) (-1991225785 : Int32)) ∈ gw := gw_t 935 (by decide +kernel) rfl
theorem zw_944 : (Jvm.Cond.constant "OrreryBox$Packer" (45 : Nat) (218765834 : Int32)) ∈ gw := gw_t 944 (by decide +kernel) rfl
theorem zw_946 : (Jvm.Cond.methodLink "OrreryBox$Packer" (48 : Nat) ({ cls := "OrreryBox$Packer", name := "openChunk", desc := "(Ljava/lang/String;)I" } : Jvm.MethodName)) ∈ gw := gw_t 946 (by decide +kernel) rfl
theorem zw_948 : (Jvm.Cond.instanceMethod ({ cls := "OrreryBox$Packer", name := "openChunk", desc := "(Ljava/lang/String;)I" } : Jvm.MethodName)) ∈ gw := gw_t 948 (by decide +kernel) rfl
theorem zv_32 : (Jvm.Cond.selects "OrreryBox$Packer" (⟨"OrreryBox$Packer", "openChunk", "(Ljava/lang/String;)I"⟩ : MethodName) ⟨"OrreryBox$Packer", "openChunk", "(Ljava/lang/String;)I"⟩) ∈ gw := gw_s 32 (by decide +kernel) rfl
theorem zs_XPacker_48 : zwV "OrreryBox$Packer" 48 "OrreryBox$Packer" zy_XPacker_openChunk zb_XPacker_openChunk 4 (some .int) := ⟨zw_946, zw_948, zv_32, zw_3, zc_XPacker_openChunk⟩
theorem zw_998 : (Jvm.Cond.constant "OrreryBox$Packer" (52 : Nat) (134348800 : Int32)) ∈ gw := gw_t 998 (by decide +kernel) rfl
theorem zw_999 : (Jvm.Cond.methodLink "OrreryBox$Packer" (56 : Nat) ({ cls := "OrreryBox$Packer", name := "closeChunk", desc := "(I)V" } : Jvm.MethodName)) ∈ gw := gw_t 999 (by decide +kernel) rfl
theorem zw_1001 : (Jvm.Cond.instanceMethod ({ cls := "OrreryBox$Packer", name := "closeChunk", desc := "(I)V" } : Jvm.MethodName)) ∈ gw := gw_t 1001 (by decide +kernel) rfl
theorem zv_33 : (Jvm.Cond.selects "OrreryBox$Packer" (⟨"OrreryBox$Packer", "closeChunk", "(I)V"⟩ : MethodName) ⟨"OrreryBox$Packer", "closeChunk", "(I)V"⟩) ∈ gw := gw_s 33 (by decide +kernel) rfl
theorem zs_XPacker_56 : zwV "OrreryBox$Packer" 56 "OrreryBox$Packer" zy_XPacker_closeChunk zb_XPacker_closeChunk 5 none := ⟨zw_999, zw_1001, zv_33, zw_3, zc_XPacker_closeChunk⟩
theorem zw_1008 : (Jvm.Cond.methodLink "OrreryBox$Packer" (61 : Nat) ({ cls := "OrreryBox$Packer", name := "packRows", desc := "()V" } : Jvm.MethodName)) ∈ gw := gw_t 1008 (by decide +kernel) rfl
theorem zw_1010 : (Jvm.Cond.instanceMethod ({ cls := "OrreryBox$Packer", name := "packRows", desc := "()V" } : Jvm.MethodName)) ∈ gw := gw_t 1010 (by decide +kernel) rfl
theorem zv_34 : (Jvm.Cond.selects "OrreryBox$Packer" (⟨"OrreryBox$Packer", "packRows", "()V"⟩ : MethodName) ⟨"OrreryBox$Packer", "packRows", "()V"⟩) ∈ gw := gw_s 34 (by decide +kernel) rfl
theorem zs_XPacker_61 : zwV "OrreryBox$Packer" 61 "OrreryBox$Packer" zy_XPacker_packRows zb_XPacker_packRows 3 none := ⟨zw_1008, zw_1010, zv_34, zw_3, zc_XPacker_packRows⟩
theorem zw_1052 : (Jvm.Cond.methodLink "OrreryBox$Packer" (64 : Nat) ({ cls := "OrreryBox$Packer", name := "sumOfRows", desc := "()I" } : Jvm.MethodName)) ∈ gw := gw_t 1052 (by decide +kernel) rfl
theorem zw_1054 : (Jvm.Cond.instanceMethod ({ cls := "OrreryBox$Packer", name := "sumOfRows", desc := "()I" } : Jvm.MethodName)) ∈ gw := gw_t 1054 (by decide +kernel) rfl
theorem zv_45 : (Jvm.Cond.selects "OrreryBox$Packer" (⟨"OrreryBox$Packer", "sumOfRows", "()I"⟩ : MethodName) ⟨"OrreryBox$Packer", "sumOfRows", "()I"⟩) ∈ gw := gw_s 45 (by decide +kernel) rfl
theorem zs_XPacker_64 : zwV "OrreryBox$Packer" 64 "OrreryBox$Packer" zy_XPacker_sumOfRows zb_XPacker_sumOfRows 4 (some .int) := ⟨zw_1052, zw_1054, zv_45, zw_3, zc_XPacker_sumOfRows⟩
def F_XPacker_write (sh : zSh) (mm : zMem) (o : Nat) (x0_ : Nat) (x1_ : Int32) (x2_ : Int32) : Option zMem := zoS (sh o) 4 (fun le2 => Option.bind (F_XPacker_makeRaw sh mm o x0_ (x1_ * x2_)) (fun p3 => zoS (sh o) 4 (fun le5 => Option.bind (F_XPacker_makeRows sh p3 o (3 * x1_) x2_) (fun p6 => zoS (sh o) 4 (fun le8 => zoL (mI p6 o 1 0) (fun mm9 => zoS (sh o) 4 (fun le11 => Option.bind (F_XPacker_putNumber sh mm9 o (-1991225785)) (fun p12 => zoS (sh o) 4 (fun le14 => Option.bind (F_XPacker_putNumber sh p12 o 218765834) (fun p15 => zoS (sh o) 4 (fun le17 => Option.bind (F_XPacker_openChunk sh p15 o 0) (fun p18 => zoS (sh o) 4 (fun le20 => Option.bind (F_XPacker_putNumber sh (p18.2) o x1_) (fun p21 => zoS (sh o) 4 (fun le23 => Option.bind (F_XPacker_putNumber sh p21 o x2_) (fun p24 => zoS (sh o) 4 (fun le26 => Option.bind (F_XPacker_putNumber sh p24 o 134348800) (fun p27 => zoS (sh o) 4 (fun le29 => Option.bind (F_XPacker_putByte sh p27 o 0) (fun p30 => zoS (sh o) 4 (fun le32 => Option.bind (F_XPacker_closeChunk sh p30 o (p18.1)) (fun p33 => zoS (sh o) 4 (fun le35 => Option.bind (F_XPacker_openChunk sh p33 o 1) (fun p36 => zoS (sh o) 4 (fun le38 => Option.bind (F_XPacker_putByte sh (p36.2) o 120) (fun p39 => zoS (sh o) 4 (fun le41 => Option.bind (F_XPacker_putByte sh p39 o 1) (fun p42 => zoS (sh o) 4 (fun le44 => Option.bind (F_XPacker_packRows sh p42 o) (fun p45 => zoS (sh o) 4 (fun le47 => Option.bind (F_XPacker_sumOfRows sh p45 o) (fun p48 => zoS (sh o) 4 (fun le50 => Option.bind (F_XPacker_putNumber sh (p48.2) o (p48.1)) (fun p51 => zoS (sh o) 4 (fun le53 => Option.bind (F_XPacker_closeChunk sh p51 o (p36.1)) (fun p54 => zoS (sh o) 4 (fun le56 => Option.bind (F_XPacker_openChunk sh p54 o 2) (fun p57 => zoS (sh o) 4 (fun le59 => Option.bind (F_XPacker_closeChunk sh (p57.2) o (p57.1)) (fun p60 => some p60))))))))))))))))))))))))))))))))))))))))
set_option maxHeartbeats 4000000 in
set_option maxRecDepth 100000 in
theorem k_XPacker_write (l : Launch) (D : va_G) (tA : Nat → ClassId) (b : Nat) (sh : zSh) (n : Nat) {mm : zMem} {o : Nat} {x0_ : Nat} {x1_ : Int32} {x2_ : Int32} {r : zMem} (h : F_XPacker_write sh mm o x0_ x1_ x2_ = some r) : zM l D tA b zy_XPacker_write zb_XPacker_write 5 none 6 149 0 0 [.ref (b + o), .ref (b + x0_), .int x1_, .int x2_] (zW tA b sh mm) n (zE none (zW tA b sh r) n) := by
  unfold F_XPacker_write at h
  refine zM_of (own := "OrreryBox$Packer") (plainFor_of_name (by decide)) rfl (Nat.le_of_ble_eq_true rfl) (fun p e s m below meth c F hr hin hH => ?_)
  refine zr_aload_n F zd_XPacker_write_0 rfl ?_
  refine zr_aload_n F zd_XPacker_write_1 rfl ?_
  refine zr_iload_n F zd_XPacker_write_2 rfl ?_
  refine zr_iload_n F zd_XPacker_write_3 rfl ?_
  refine zr_imul F zd_XPacker_write_4 ?_
  obtain ⟨le2, hs1, h⟩ := zoS_s h
  obtain ⟨p3, ep3, h⟩ := zoB_s h
  refine zr_callV0 F (k_XPacker_makeRaw l D tA b sh _ ep3) zd_XPacker_write_5 (zW_o hs1 (by decide)) rfl zs_XPacker_28 rfl zq_XPacker_makeRaw rfl rfl ⟨(Nat.le_of_ble_eq_true rfl), (Nat.le_of_ble_eq_true rfl)⟩ (Nat.le_of_ble_eq_true rfl) ⟨(Nat.le_of_ble_eq_true rfl), (Nat.le_of_ble_eq_true rfl)⟩ ?_
  refine zr_aload_n F zd_XPacker_write_8 rfl ?_
  refine zr_pcn 9 rfl ?_
  refine zr_iconstv (v := 3) F zd_XPacker_write_9 (by decide) ?_
  refine zr_iload_n F zd_XPacker_write_10 rfl ?_
  refine zr_imul F zd_XPacker_write_11 ?_
  refine zr_iload_n F zd_XPacker_write_12 rfl ?_
  obtain ⟨le5, hs4, h⟩ := zoS_s h
  obtain ⟨p6, ep6, h⟩ := zoB_s h
  refine zr_callV0 F (k_XPacker_makeRows l D tA b sh _ ep6) zd_XPacker_write_13 (zW_o hs4 (by decide)) rfl zs_XPacker_32 rfl zq_XPacker_makeRows rfl rfl ⟨(Nat.le_of_ble_eq_true rfl), (Nat.le_of_ble_eq_true rfl)⟩ (Nat.le_of_ble_eq_true rfl) ⟨(Nat.le_of_ble_eq_true rfl), (Nat.le_of_ble_eq_true rfl)⟩ ?_
  refine zr_aload_n F zd_XPacker_write_16 rfl ?_
  refine zr_iconstv (v := 0) F zd_XPacker_write_17 (by decide) ?_
  obtain ⟨le8, hs7, h⟩ := zoS_s h
  refine zr_put F 4 1 zd_XPacker_write_18 (zW_o hs7 (by decide)) rfl (by decide) zw_83 rfl rfl rfl rfl (by exact (Nat.le_of_ble_eq_true rfl)) ?_
  obtain ⟨mm9, emm9, h⟩ := zoL_s h
  refine zr_norm (zW tA b sh mm9) _ (by rw [emm9]; exact zW_pI (v := 0) hs7 (by decide) (zf_I_4_1 b _ _ _)) rfl ?_
  refine zr_pcn 21 rfl ?_
  refine zr_aload_n F zd_XPacker_write_21 rfl ?_
  refine zr_ldc F zd_XPacker_write_22 zw_935 ?_
  obtain ⟨le11, hs10, h⟩ := zoS_s h
  obtain ⟨p12, ep12, h⟩ := zoB_s h
  refine zr_callV0 F (k_XPacker_putNumber l D tA b sh _ ep12) zd_XPacker_write_24 (zW_o hs10 (by decide)) rfl zs_XPacker_41 rfl zq_XPacker_putNumber rfl rfl ⟨(Nat.le_of_ble_eq_true rfl), (Nat.le_of_ble_eq_true rfl)⟩ (Nat.le_of_ble_eq_true rfl) ⟨(Nat.le_of_ble_eq_true rfl), (Nat.le_of_ble_eq_true rfl)⟩ ?_
  refine zr_aload_n F zd_XPacker_write_27 rfl ?_
  refine zr_ldc F zd_XPacker_write_28 zw_944 ?_
  obtain ⟨le14, hs13, h⟩ := zoS_s h
  obtain ⟨p15, ep15, h⟩ := zoB_s h
  refine zr_callV0 F (k_XPacker_putNumber l D tA b sh _ ep15) zd_XPacker_write_30 (zW_o hs13 (by decide)) rfl zs_XPacker_41 rfl zq_XPacker_putNumber rfl rfl ⟨(Nat.le_of_ble_eq_true rfl), (Nat.le_of_ble_eq_true rfl)⟩ (Nat.le_of_ble_eq_true rfl) ⟨(Nat.le_of_ble_eq_true rfl), (Nat.le_of_ble_eq_true rfl)⟩ ?_
  refine zr_aload_n F zd_XPacker_write_33 rfl ?_
  refine zr_ldcS F 0 "IHDR" zd_XPacker_write_34 (by decide +kernel) ?_
  refine zr_pcn 36 rfl ?_
  obtain ⟨le17, hs16, h⟩ := zoS_s h
  obtain ⟨p18, ep18, h⟩ := zoB_s h
  refine zr_callV1 F (k_XPacker_openChunk l D tA b sh _ ep18) zd_XPacker_write_36 (zW_o hs16 (by decide)) rfl zs_XPacker_48 rfl zq_XPacker_openChunk rfl rfl ⟨(Nat.le_of_ble_eq_true rfl), (Nat.le_of_ble_eq_true rfl)⟩ (Nat.le_of_ble_eq_true rfl) ⟨(Nat.le_of_ble_eq_true rfl), (Nat.le_of_ble_eq_true rfl)⟩ ?_
  refine zr_istore F zd_XPacker_write_39 (by decide) ?_
  refine zr_aload_n F zd_XPacker_write_41 rfl ?_
  refine zr_iload_n F zd_XPacker_write_42 rfl ?_
  obtain ⟨le20, hs19, h⟩ := zoS_s h
  obtain ⟨p21, ep21, h⟩ := zoB_s h
  refine zr_callV0 F (k_XPacker_putNumber l D tA b sh _ ep21) zd_XPacker_write_43 (zW_o hs19 (by decide)) rfl zs_XPacker_41 rfl zq_XPacker_putNumber rfl rfl ⟨(Nat.le_of_ble_eq_true rfl), (Nat.le_of_ble_eq_true rfl)⟩ (Nat.le_of_ble_eq_true rfl) ⟨(Nat.le_of_ble_eq_true rfl), (Nat.le_of_ble_eq_true rfl)⟩ ?_
  refine zr_aload_n F zd_XPacker_write_46 rfl ?_
  refine zr_iload_n F zd_XPacker_write_47 rfl ?_
  obtain ⟨le23, hs22, h⟩ := zoS_s h
  obtain ⟨p24, ep24, h⟩ := zoB_s h
  refine zr_callV0 F (k_XPacker_putNumber l D tA b sh _ ep24) zd_XPacker_write_48 (zW_o hs22 (by decide)) rfl zs_XPacker_41 rfl zq_XPacker_putNumber rfl rfl ⟨(Nat.le_of_ble_eq_true rfl), (Nat.le_of_ble_eq_true rfl)⟩ (Nat.le_of_ble_eq_true rfl) ⟨(Nat.le_of_ble_eq_true rfl), (Nat.le_of_ble_eq_true rfl)⟩ ?_
  refine zr_pcn 51 rfl ?_
  refine zr_aload_n F zd_XPacker_write_51 rfl ?_
  refine zr_ldc F zd_XPacker_write_52 zw_998 ?_
  obtain ⟨le26, hs25, h⟩ := zoS_s h
  obtain ⟨p27, ep27, h⟩ := zoB_s h
  refine zr_callV0 F (k_XPacker_putNumber l D tA b sh _ ep27) zd_XPacker_write_54 (zW_o hs25 (by decide)) rfl zs_XPacker_41 rfl zq_XPacker_putNumber rfl rfl ⟨(Nat.le_of_ble_eq_true rfl), (Nat.le_of_ble_eq_true rfl)⟩ (Nat.le_of_ble_eq_true rfl) ⟨(Nat.le_of_ble_eq_true rfl), (Nat.le_of_ble_eq_true rfl)⟩ ?_
  refine zr_aload_n F zd_XPacker_write_57 rfl ?_
  refine zr_iconstv (v := 0) F zd_XPacker_write_58 (by decide) ?_
  obtain ⟨le29, hs28, h⟩ := zoS_s h
  obtain ⟨p30, ep30, h⟩ := zoB_s h
  refine zr_callV0 F (k_XPacker_putByte l D tA b sh _ ep30) zd_XPacker_write_59 (zW_o hs28 (by decide)) rfl zs_XPacker_53 rfl zq_XPacker_putByte rfl rfl ⟨(Nat.le_of_ble_eq_true rfl), (Nat.le_of_ble_eq_true rfl)⟩ (Nat.le_of_ble_eq_true rfl) ⟨(Nat.le_of_ble_eq_true rfl), (Nat.le_of_ble_eq_true rfl)⟩ ?_
  refine zr_aload_n F zd_XPacker_write_62 rfl ?_
  refine zr_iload F zd_XPacker_write_63 rfl ?_
  refine zr_pcn 65 rfl ?_
  obtain ⟨le32, hs31, h⟩ := zoS_s h
  obtain ⟨p33, ep33, h⟩ := zoB_s h
  refine zr_callV0 F (k_XPacker_closeChunk l D tA b sh _ ep33) zd_XPacker_write_65 (zW_o hs31 (by decide)) rfl zs_XPacker_56 rfl zq_XPacker_closeChunk rfl rfl ⟨(Nat.le_of_ble_eq_true rfl), (Nat.le_of_ble_eq_true rfl)⟩ (Nat.le_of_ble_eq_true rfl) ⟨(Nat.le_of_ble_eq_true rfl), (Nat.le_of_ble_eq_true rfl)⟩ ?_
  refine zr_aload_n F zd_XPacker_write_68 rfl ?_
  refine zr_ldcS F 1 "IDAT" zd_XPacker_write_69 (by decide +kernel) ?_
  obtain ⟨le35, hs34, h⟩ := zoS_s h
  obtain ⟨p36, ep36, h⟩ := zoB_s h
  refine zr_callV1 F (k_XPacker_openChunk l D tA b sh _ ep36) zd_XPacker_write_71 (zW_o hs34 (by decide)) rfl zs_XPacker_48 rfl zq_XPacker_openChunk rfl rfl ⟨(Nat.le_of_ble_eq_true rfl), (Nat.le_of_ble_eq_true rfl)⟩ (Nat.le_of_ble_eq_true rfl) ⟨(Nat.le_of_ble_eq_true rfl), (Nat.le_of_ble_eq_true rfl)⟩ ?_
  refine zr_istore F zd_XPacker_write_74 (by decide) ?_
  refine zr_aload_n F zd_XPacker_write_76 rfl ?_
  refine zr_bipushv (v := 120) F zd_XPacker_write_77 (by decide) ?_
  obtain ⟨le38, hs37, h⟩ := zoS_s h
  obtain ⟨p39, ep39, h⟩ := zoB_s h
  refine zr_callV0 F (k_XPacker_putByte l D tA b sh _ ep39) zd_XPacker_write_79 (zW_o hs37 (by decide)) rfl zs_XPacker_53 rfl zq_XPacker_putByte rfl rfl ⟨(Nat.le_of_ble_eq_true rfl), (Nat.le_of_ble_eq_true rfl)⟩ (Nat.le_of_ble_eq_true rfl) ⟨(Nat.le_of_ble_eq_true rfl), (Nat.le_of_ble_eq_true rfl)⟩ ?_
  refine zr_pcn 82 rfl ?_
  refine zr_aload_n F zd_XPacker_write_82 rfl ?_
  refine zr_iconstv (v := 1) F zd_XPacker_write_83 (by decide) ?_
  obtain ⟨le41, hs40, h⟩ := zoS_s h
  obtain ⟨p42, ep42, h⟩ := zoB_s h
  refine zr_callV0 F (k_XPacker_putByte l D tA b sh _ ep42) zd_XPacker_write_84 (zW_o hs40 (by decide)) rfl zs_XPacker_53 rfl zq_XPacker_putByte rfl rfl ⟨(Nat.le_of_ble_eq_true rfl), (Nat.le_of_ble_eq_true rfl)⟩ (Nat.le_of_ble_eq_true rfl) ⟨(Nat.le_of_ble_eq_true rfl), (Nat.le_of_ble_eq_true rfl)⟩ ?_
  refine zr_aload_n F zd_XPacker_write_87 rfl ?_
  obtain ⟨le44, hs43, h⟩ := zoS_s h
  obtain ⟨p45, ep45, h⟩ := zoB_s h
  refine zr_callV0 F (k_XPacker_packRows l D tA b sh _ ep45) zd_XPacker_write_88 (zW_o hs43 (by decide)) rfl zs_XPacker_61 rfl zq_XPacker_packRows rfl rfl ⟨(Nat.le_of_ble_eq_true rfl), (Nat.le_of_ble_eq_true rfl)⟩ (Nat.le_of_ble_eq_true rfl) ⟨(Nat.le_of_ble_eq_true rfl), (Nat.le_of_ble_eq_true rfl)⟩ ?_
  refine zr_aload_n F zd_XPacker_write_91 rfl ?_
  refine zr_aload_n F zd_XPacker_write_92 rfl ?_
  obtain ⟨le47, hs46, h⟩ := zoS_s h
  obtain ⟨p48, ep48, h⟩ := zoB_s h
  refine zr_callV1 F (k_XPacker_sumOfRows l D tA b sh _ ep48) zd_XPacker_write_93 (zW_o hs46 (by decide)) rfl zs_XPacker_64 rfl zq_XPacker_sumOfRows rfl rfl ⟨(Nat.le_of_ble_eq_true rfl), (Nat.le_of_ble_eq_true rfl)⟩ (Nat.le_of_ble_eq_true rfl) ⟨(Nat.le_of_ble_eq_true rfl), (Nat.le_of_ble_eq_true rfl)⟩ ?_
  refine zr_pcn 96 rfl ?_
  obtain ⟨le50, hs49, h⟩ := zoS_s h
  obtain ⟨p51, ep51, h⟩ := zoB_s h
  refine zr_callV0 F (k_XPacker_putNumber l D tA b sh _ ep51) zd_XPacker_write_96 (zW_o hs49 (by decide)) rfl zs_XPacker_41 rfl zq_XPacker_putNumber rfl rfl ⟨(Nat.le_of_ble_eq_true rfl), (Nat.le_of_ble_eq_true rfl)⟩ (Nat.le_of_ble_eq_true rfl) ⟨(Nat.le_of_ble_eq_true rfl), (Nat.le_of_ble_eq_true rfl)⟩ ?_
  refine zr_aload_n F zd_XPacker_write_99 rfl ?_
  refine zr_iload F zd_XPacker_write_100 rfl ?_
  obtain ⟨le53, hs52, h⟩ := zoS_s h
  obtain ⟨p54, ep54, h⟩ := zoB_s h
  refine zr_callV0 F (k_XPacker_closeChunk l D tA b sh _ ep54) zd_XPacker_write_102 (zW_o hs52 (by decide)) rfl zs_XPacker_56 rfl zq_XPacker_closeChunk rfl rfl ⟨(Nat.le_of_ble_eq_true rfl), (Nat.le_of_ble_eq_true rfl)⟩ (Nat.le_of_ble_eq_true rfl) ⟨(Nat.le_of_ble_eq_true rfl), (Nat.le_of_ble_eq_true rfl)⟩ ?_
  refine zr_aload_n F zd_XPacker_write_105 rfl ?_
  refine zr_aload_n F zd_XPacker_write_106 rfl ?_
  refine zr_ldcS F 2 "IEND" zd_XPacker_write_107 (by decide +kernel) ?_
  obtain ⟨le56, hs55, h⟩ := zoS_s h
  obtain ⟨p57, ep57, h⟩ := zoB_s h
  refine zr_callV1 F (k_XPacker_openChunk l D tA b sh _ ep57) zd_XPacker_write_109 (zW_o hs55 (by decide)) rfl zs_XPacker_48 rfl zq_XPacker_openChunk rfl rfl ⟨(Nat.le_of_ble_eq_true rfl), (Nat.le_of_ble_eq_true rfl)⟩ (Nat.le_of_ble_eq_true rfl) ⟨(Nat.le_of_ble_eq_true rfl), (Nat.le_of_ble_eq_true rfl)⟩ ?_
  refine zr_pcn 112 rfl ?_
  obtain ⟨le59, hs58, h⟩ := zoS_s h
  obtain ⟨p60, ep60, h⟩ := zoB_s h
  refine zr_callV0 F (k_XPacker_closeChunk l D tA b sh _ ep60) zd_XPacker_write_112 (zW_o hs58 (by decide)) rfl zs_XPacker_56 rfl zq_XPacker_closeChunk rfl rfl ⟨(Nat.le_of_ble_eq_true rfl), (Nat.le_of_ble_eq_true rfl)⟩ (Nat.le_of_ble_eq_true rfl) ⟨(Nat.le_of_ble_eq_true rfl), (Nat.le_of_ble_eq_true rfl)⟩ ?_
  obtain rfl := Option.some.inj h
  exact zr_vret F hr zd_XPacker_write_115 (Nat.le_of_ble_eq_true rfl) (Nat.le_of_ble_eq_true rfl) ⟨rfl, rfl, rfl⟩
