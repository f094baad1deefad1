abbrev zb_XPiece_ownsEdge : ByteArray := prog_7_method_12_code
def zy_XPiece_ownsEdge : MethodName := ⟨"OrreryBox$Piece", "ownsEdge", "(II)Z"⟩
theorem zc_XPiece_ownsEdge : Cond.code zy_XPiece_ownsEdge zb_XPiece_ownsEdge 3 (some .boolean) ∈ gw := gw_t 828 (by decide +kernel) rfl
theorem zq_XPiece_ownsEdge : zy_XPiece_ownsEdge.cls ≠ "java/lang/invoke/MethodHandle" ∧ zy_XPiece_ownsEdge.cls ≠ "java/lang/invoke/VarHandle" ∧ (parseMethodDescriptor zy_XPiece_ownsEdge.desc).map (fun d => d.parameters.length) = some 2 := by decide +kernel
theorem zd_XPiece_ownsEdge_0 : decode zb_XPiece_ownsEdge 0 = .ok (.aload_n 0, 1) := by decide +kernel
theorem zd_XPiece_ownsEdge_1 : decode zb_XPiece_ownsEdge 1 = .ok (.getfield 9, 3) := by decide +kernel
theorem zd_XPiece_ownsEdge_4 : decode zb_XPiece_ownsEdge 4 = .ok (.iload_n 2, 1) := by decide +kernel
theorem zd_XPiece_ownsEdge_5 : decode zb_XPiece_ownsEdge 5 = .ok (.iconst 1, 1) := by decide +kernel
theorem zd_XPiece_ownsEdge_6 : decode zb_XPiece_ownsEdge 6 = .ok (.iadd, 1) := by decide +kernel
theorem zd_XPiece_ownsEdge_7 : decode zb_XPiece_ownsEdge 7 = .ok (.iaload, 1) := by decide +kernel
theorem zd_XPiece_ownsEdge_8 : decode zb_XPiece_ownsEdge 8 = .ok (.aload_n 0, 1) := by decide +kernel
theorem zd_XPiece_ownsEdge_9 : decode zb_XPiece_ownsEdge 9 = .ok (.getfield 9, 3) := by decide +kernel
theorem zd_XPiece_ownsEdge_12 : decode zb_XPiece_ownsEdge 12 = .ok (.iload_n 1, 1) := by decide +kernel
theorem zd_XPiece_ownsEdge_13 : decode zb_XPiece_ownsEdge 13 = .ok (.iconst 1, 1) := by decide +kernel
theorem zd_XPiece_ownsEdge_14 : decode zb_XPiece_ownsEdge 14 = .ok (.iadd, 1) := by decide +kernel
theorem zd_XPiece_ownsEdge_15 : decode zb_XPiece_ownsEdge 15 = .ok (.iaload, 1) := by decide +kernel
theorem zd_XPiece_ownsEdge_16 : decode zb_XPiece_ownsEdge 16 = .ok (.if_icmp .lt 37, 3) := by decide +kernel
theorem zd_XPiece_ownsEdge_19 : decode zb_XPiece_ownsEdge 19 = .ok (.aload_n 0, 1) := by decide +kernel
theorem zd_XPiece_ownsEdge_20 : decode zb_XPiece_ownsEdge 20 = .ok (.getfield 9, 3) := by decide +kernel
theorem zd_XPiece_ownsEdge_23 : decode zb_XPiece_ownsEdge 23 = .ok (.iload_n 2, 1) := by decide +kernel
theorem zd_XPiece_ownsEdge_24 : decode zb_XPiece_ownsEdge 24 = .ok (.iconst 1, 1) := by decide +kernel
theorem zd_XPiece_ownsEdge_25 : decode zb_XPiece_ownsEdge 25 = .ok (.iadd, 1) := by decide +kernel
theorem zd_XPiece_ownsEdge_26 : decode zb_XPiece_ownsEdge 26 = .ok (.iaload, 1) := by decide +kernel
theorem zd_XPiece_ownsEdge_27 : decode zb_XPiece_ownsEdge 27 = .ok (.aload_n 0, 1) := by decide +kernel
theorem zd_XPiece_ownsEdge_28 : decode zb_XPiece_ownsEdge 28 = .ok (.getfield 9, 3) := by decide +kernel
theorem zd_XPiece_ownsEdge_31 : decode zb_XPiece_ownsEdge 31 = .ok (.iload_n 1, 1) := by decide +kernel
theorem zd_XPiece_ownsEdge_32 : decode zb_XPiece_ownsEdge 32 = .ok (.iconst 1, 1) := by decide +kernel
theorem zd_XPiece_ownsEdge_33 : decode zb_XPiece_ownsEdge 33 = .ok (.iadd, 1) := by decide +kernel
theorem zd_XPiece_ownsEdge_34 : decode zb_XPiece_ownsEdge 34 = .ok (.iaload, 1) := by decide +kernel
theorem zd_XPiece_ownsEdge_35 : decode zb_XPiece_ownsEdge 35 = .ok (.if_icmp .ne 22, 3) := by decide +kernel
theorem zd_XPiece_ownsEdge_38 : decode zb_XPiece_ownsEdge 38 = .ok (.aload_n 0, 1) := by decide +kernel
theorem zd_XPiece_ownsEdge_39 : decode zb_XPiece_ownsEdge 39 = .ok (.getfield 9, 3) := by decide +kernel
theorem zd_XPiece_ownsEdge_42 : decode zb_XPiece_ownsEdge 42 = .ok (.iload_n 2, 1) := by decide +kernel
theorem zd_XPiece_ownsEdge_43 : decode zb_XPiece_ownsEdge 43 = .ok (.iaload, 1) := by decide +kernel
theorem zd_XPiece_ownsEdge_44 : decode zb_XPiece_ownsEdge 44 = .ok (.aload_n 0, 1) := by decide +kernel
theorem zd_XPiece_ownsEdge_45 : decode zb_XPiece_ownsEdge 45 = .ok (.getfield 9, 3) := by decide +kernel
theorem zd_XPiece_ownsEdge_48 : decode zb_XPiece_ownsEdge 48 = .ok (.iload_n 1, 1) := by decide +kernel
theorem zd_XPiece_ownsEdge_49 : decode zb_XPiece_ownsEdge 49 = .ok (.iaload, 1) := by decide +kernel
theorem zd_XPiece_ownsEdge_50 : decode zb_XPiece_ownsEdge 50 = .ok (.if_icmp .le 7, 3) := by decide +kernel
theorem zd_XPiece_ownsEdge_53 : decode zb_XPiece_ownsEdge 53 = .ok (.iconst 1, 1) := by decide +kernel
theorem zd_XPiece_ownsEdge_54 : decode zb_XPiece_ownsEdge 54 = .ok (.goto 4, 3) := by decide +kernel
theorem zd_XPiece_ownsEdge_57 : decode zb_XPiece_ownsEdge 57 = .ok (.iconst 0, 1) := by decide +kernel
theorem zd_XPiece_ownsEdge_58 : decode zb_XPiece_ownsEdge 58 = .ok (.ireturn, 1) := by decide +kernel
def F_XPiece_ownsEdge (sh : zSh) (mm : zMem) (o : Nat) (x0_ : Int32) (x1_ : Int32) : Option (Int32 × zMem) := zoS (sh o) 6 (fun le2 => Option.bind (mm.2.2 o 1) (fun a3 => zoL (x1_ + 1) (fun i4 => zoS (sh a3) 100 (fun le6 => if (i4 : Int32) < 0 ∨ le6 ≤ (i4 : Int32).toNatClampNeg then none else zoS (sh o) 6 (fun le9 => Option.bind (mm.2.2 o 1) (fun a10 => zoL (x0_ + 1) (fun i11 => zoS (sh a10) 100 (fun le13 => if (i11 : Int32) < 0 ∨ le13 ≤ (i11 : Int32).toNatClampNeg then none else (if (mm.1 a3 (i4 : Int32).toNatClampNeg) < (mm.1 a10 (i11 : Int32).toNatClampNeg) then some (1, mm) else zoS (sh o) 6 (fun le17 => Option.bind (mm.2.2 o 1) (fun a18 => zoL (x1_ + 1) (fun i19 => zoS (sh a18) 100 (fun le21 => if (i19 : Int32) < 0 ∨ le21 ≤ (i19 : Int32).toNatClampNeg then none else zoS (sh o) 6 (fun le24 => Option.bind (mm.2.2 o 1) (fun a25 => zoL (x0_ + 1) (fun i26 => zoS (sh a25) 100 (fun le28 => if (i26 : Int32) < 0 ∨ le28 ≤ (i26 : Int32).toNatClampNeg then none else (if (mm.1 a18 (i19 : Int32).toNatClampNeg) = (mm.1 a25 (i26 : Int32).toNatClampNeg) then zoS (sh o) 6 (fun le32 => Option.bind (mm.2.2 o 1) (fun a33 => zoS (sh a33) 100 (fun le35 => if (x1_ : Int32) < 0 ∨ le35 ≤ (x1_ : Int32).toNatClampNeg then none else zoS (sh o) 6 (fun le38 => Option.bind (mm.2.2 o 1) (fun a39 => zoS (sh a39) 100 (fun le41 => if (x0_ : Int32) < 0 ∨ le41 ≤ (x0_ : Int32).toNatClampNeg then none else (if (mm.1 a33 (x1_ : Int32).toNatClampNeg) ≤ (mm.1 a39 (x0_ : Int32).toNatClampNeg) then some (0, mm) else some (1, mm)))))))) else some (0, mm)))))))))))))))))))
set_option maxHeartbeats 4000000 in
set_option maxRecDepth 100000 in
theorem k_XPiece_ownsEdge (l : Launch) (D : va_G) (tA : Nat → ClassId) (b : Nat) (sh : zSh) (n : Nat) {mm : zMem} {o : Nat} {x0_ : Int32} {x1_ : Int32} {r : (Int32 × zMem)} (h : F_XPiece_ownsEdge sh mm o x0_ x1_ = some r) : zM l D tA b zy_XPiece_ownsEdge zb_XPiece_ownsEdge 3 (some .boolean) 0 0 0 0 [.ref (b + o), .int x0_, .int x1_] (zW tA b sh mm) n (zE (some (.int (r.1))) (zW tA b sh r.2) n) := by
  unfold F_XPiece_ownsEdge at h
  refine zM_of (own := "OrreryBox$Piece") (plainFor_of_name (by decide)) rfl (Nat.le_of_ble_eq_true rfl) (fun p e s m below meth c F hr hin hH => ?_)
  refine zr_aload_n F zd_XPiece_ownsEdge_0 rfl ?_
  obtain ⟨le2, hs1, h⟩ := zoS_s h
  obtain ⟨a3, ea3, h⟩ := zoB_s h
  refine zr_get F 6 1 zd_XPiece_ownsEdge_1 (zW_o hs1 (by decide)) rfl (by decide) zw_351 rfl (by rfl) ?_
  refine zr_tor ea3 ?_
  refine zr_iload_n F zd_XPiece_ownsEdge_4 rfl ?_
  refine zr_iconstv (v := 1) F zd_XPiece_ownsEdge_5 (by decide) ?_
  refine zr_iadd F zd_XPiece_ownsEdge_6 ?_
  obtain ⟨i4, ei4, h⟩ := zoL_s h
  rw [← ei4]
  obtain ⟨le6, hs5, h⟩ := zoS_s h
  obtain ⟨hi7, h⟩ := zoI_s h
  refine zr_iald F zd_XPiece_ownsEdge_7 (zW_a0 hs5) hi7 ?_
  refine zr_aload_n F zd_XPiece_ownsEdge_8 rfl ?_
  refine zr_pcn 9 rfl ?_
  obtain ⟨le9, hs8, h⟩ := zoS_s h
  obtain ⟨a10, ea10, h⟩ := zoB_s h
  refine zr_get F 6 1 zd_XPiece_ownsEdge_9 (zW_o hs8 (by decide)) rfl (by decide) zw_351 rfl (by rfl) ?_
  refine zr_tor ea10 ?_
  refine zr_iload_n F zd_XPiece_ownsEdge_12 rfl ?_
  refine zr_iconstv (v := 1) F zd_XPiece_ownsEdge_13 (by decide) ?_
  refine zr_iadd F zd_XPiece_ownsEdge_14 ?_
  obtain ⟨i11, ei11, h⟩ := zoL_s h
  rw [← ei11]
  obtain ⟨le13, hs12, h⟩ := zoS_s h
  obtain ⟨hi14, h⟩ := zoI_s h
  refine zr_iald F zd_XPiece_ownsEdge_15 (zW_a0 hs12) hi14 ?_
  refine zr_icmp_lt F 53 zd_XPiece_ownsEdge_16 (by decide) (fun hb15 => ?_) (fun hb15 => ?_)
  ·
    rw [if_pos hb15] at h
    refine zr_iconstv (v := 1) F zd_XPiece_ownsEdge_53 (by decide) ?_
    refine zr_goto F 58 zd_XPiece_ownsEdge_54 (by decide) ?_
    refine zr_pcn 58 rfl ?_
    obtain rfl := Option.some.inj h
    exact zr_zret F hr rfl zd_XPiece_ownsEdge_58 (Nat.le_of_ble_eq_true rfl) (Nat.le_of_ble_eq_true rfl) ⟨rfl, rfl, rfl⟩
  ·
    rw [if_neg hb15] at h
    refine zr_aload_n F zd_XPiece_ownsEdge_19 rfl ?_
    obtain ⟨le17, hs16, h⟩ := zoS_s h
    obtain ⟨a18, ea18, h⟩ := zoB_s h
    refine zr_get F 6 1 zd_XPiece_ownsEdge_20 (zW_o hs16 (by decide)) rfl (by decide) zw_351 rfl (by rfl) ?_
    refine zr_tor ea18 ?_
    refine zr_iload_n F zd_XPiece_ownsEdge_23 rfl ?_
    refine zr_iconstv (v := 1) F zd_XPiece_ownsEdge_24 (by decide) ?_
    refine zr_iadd F zd_XPiece_ownsEdge_25 ?_
    obtain ⟨i19, ei19, h⟩ := zoL_s h
    rw [← ei19]
    obtain ⟨le21, hs20, h⟩ := zoS_s h
    obtain ⟨hi22, h⟩ := zoI_s h
    refine zr_iald F zd_XPiece_ownsEdge_26 (zW_a0 hs20) hi22 ?_
    refine zr_aload_n F zd_XPiece_ownsEdge_27 rfl ?_
    refine zr_pcn 28 rfl ?_
    obtain ⟨le24, hs23, h⟩ := zoS_s h
    obtain ⟨a25, ea25, h⟩ := zoB_s h
    refine zr_get F 6 1 zd_XPiece_ownsEdge_28 (zW_o hs23 (by decide)) rfl (by decide) zw_351 rfl (by rfl) ?_
    refine zr_tor ea25 ?_
    refine zr_iload_n F zd_XPiece_ownsEdge_31 rfl ?_
    refine zr_iconstv (v := 1) F zd_XPiece_ownsEdge_32 (by decide) ?_
    refine zr_iadd F zd_XPiece_ownsEdge_33 ?_
    obtain ⟨i26, ei26, h⟩ := zoL_s h
    rw [← ei26]
    obtain ⟨le28, hs27, h⟩ := zoS_s h
    obtain ⟨hi29, h⟩ := zoI_s h
    refine zr_iald F zd_XPiece_ownsEdge_34 (zW_a0 hs27) hi29 ?_
    refine zr_icmp_ne F 57 zd_XPiece_ownsEdge_35 (by decide) (fun hb30 => ?_) (fun hb30 => ?_)
    ·
      rw [if_neg hb30] at h
      refine zr_iconstv (v := 0) F zd_XPiece_ownsEdge_57 (by decide) ?_
      obtain rfl := Option.some.inj h
      exact zr_zret F hr rfl zd_XPiece_ownsEdge_58 (Nat.le_of_ble_eq_true rfl) (Nat.le_of_ble_eq_true rfl) ⟨rfl, rfl, rfl⟩
    ·
      rw [if_pos hb30] at h
      refine zr_pcn 38 rfl ?_
      refine zr_aload_n F zd_XPiece_ownsEdge_38 rfl ?_
      obtain ⟨le32, hs31, h⟩ := zoS_s h
      obtain ⟨a33, ea33, h⟩ := zoB_s h
      refine zr_get F 6 1 zd_XPiece_ownsEdge_39 (zW_o hs31 (by decide)) rfl (by decide) zw_351 rfl (by rfl) ?_
      refine zr_tor ea33 ?_
      refine zr_iload_n F zd_XPiece_ownsEdge_42 rfl ?_
      obtain ⟨le35, hs34, h⟩ := zoS_s h
      obtain ⟨hi36, h⟩ := zoI_s h
      refine zr_iald F zd_XPiece_ownsEdge_43 (zW_a0 hs34) hi36 ?_
      refine zr_aload_n F zd_XPiece_ownsEdge_44 rfl ?_
      obtain ⟨le38, hs37, h⟩ := zoS_s h
      obtain ⟨a39, ea39, h⟩ := zoB_s h
      refine zr_get F 6 1 zd_XPiece_ownsEdge_45 (zW_o hs37 (by decide)) rfl (by decide) zw_351 rfl (by rfl) ?_
      refine zr_tor ea39 ?_
      refine zr_iload_n F zd_XPiece_ownsEdge_48 rfl ?_
      obtain ⟨le41, hs40, h⟩ := zoS_s h
      obtain ⟨hi42, h⟩ := zoI_s h
      refine zr_iald F zd_XPiece_ownsEdge_49 (zW_a0 hs40) hi42 ?_
      refine zr_pcn 50 rfl ?_
      refine zr_icmp_le F 57 zd_XPiece_ownsEdge_50 (by decide) (fun hb43 => ?_) (fun hb43 => ?_)
      ·
        rw [if_pos hb43] at h
        refine zr_iconstv (v := 0) F zd_XPiece_ownsEdge_57 (by decide) ?_
        obtain rfl := Option.some.inj h
        exact zr_zret F hr rfl zd_XPiece_ownsEdge_58 (Nat.le_of_ble_eq_true rfl) (Nat.le_of_ble_eq_true rfl) ⟨rfl, rfl, rfl⟩
      ·
        rw [if_neg hb43] at h
        refine zr_iconstv (v := 1) F zd_XPiece_ownsEdge_53 (by decide) ?_
        refine zr_goto F 58 zd_XPiece_ownsEdge_54 (by decide) ?_
        obtain rfl := Option.some.inj h
        exact zr_zret F hr rfl zd_XPiece_ownsEdge_58 (Nat.le_of_ble_eq_true rfl) (Nat.le_of_ble_eq_true rfl) ⟨rfl, rfl, rfl⟩
def F_XPiece_near (sh : zSh) (mm : zMem) (o : Nat) : Option (Int64 × zMem) := zoS (sh o) 6 (fun le2 => zoS (sh o) 6 (fun le4 => some ((zx_div (mm.2.1 o 5) (mm.2.1 o 0)), mm)))
set_option maxHeartbeats 4000000 in
set_option maxRecDepth 100000 in
theorem k_XPiece_near (l : Launch) (D : va_G) (tA : Nat → ClassId) (b : Nat) (sh : zSh) (n : Nat) {mm : zMem} {o : Nat} {r : (Int64 × zMem)} (h : F_XPiece_near sh mm o = some r) : zM l D tA b zy_XPiece_near zb_XPiece_near 1 (some .long) 2 48 0 0 [.ref (b + o)] (zW tA b sh mm) n (zE (some (.long (r.1))) (zW tA b sh r.2) n) := by
  unfold F_XPiece_near at h
  refine zM_of (own := "OrreryBox$Piece") (plainFor_of_name (by decide)) rfl (Nat.le_of_ble_eq_true rfl) (fun p e s m below meth c F hr hin hH => ?_)
  refine zr_aload_n F zd_XPiece_near_0 rfl ?_
  obtain ⟨le2, hs1, h⟩ := zoS_s h
  refine zr_get F 6 5 zd_XPiece_near_1 (zW_o hs1 (by decide)) rfl (by decide) zw_355 rfl (by rfl) ?_
  refine zr_aload_n F zd_XPiece_near_4 rfl ?_
  obtain ⟨le4, hs3, h⟩ := zoS_s h
  refine zr_get F 6 0 zd_XPiece_near_5 (zW_o hs3 (by decide)) rfl (by decide) zw_349 rfl (by rfl) ?_
  refine zr_callS1 F (c_XFixed_div l D tA b _ _ (mm.2.1 o 5) (mm.2.1 o 0)) zd_XPiece_near_8 zs_XPiece_69 zq_XFixed_div rfl rfl ⟨(Nat.le_of_ble_eq_true rfl), (Nat.le_of_ble_eq_true rfl)⟩ (Nat.le_of_ble_eq_true rfl) ⟨(Nat.le_of_ble_eq_true rfl), (Nat.le_of_ble_eq_true rfl)⟩ ?_
  obtain rfl := Option.some.inj h
  exact zr_lret F hr zd_XPiece_near_11 (Nat.le_of_ble_eq_true rfl) (Nat.le_of_ble_eq_true rfl) ⟨rfl, rfl, rfl⟩
abbrev zb_XPiece_mixed : ByteArray := prog_7_method_14_code
def zy_XPiece_mixed : MethodName := ⟨"OrreryBox$Piece", "mixed", "(I)J"⟩
theorem zc_XPiece_mixed : Cond.code zy_XPiece_mixed zb_XPiece_mixed 2 (some .long) ∈ gw := gw_t 838 (by decide +kernel) rfl
theorem zq_XPiece_mixed : zy_XPiece_mixed.cls ≠ "java/lang/invoke/MethodHandle" ∧ zy_XPiece_mixed.cls ≠ "java/lang/invoke/VarHandle" ∧ (parseMethodDescriptor zy_XPiece_mixed.desc).map (fun d => d.parameters.length) = some 1 := by decide +kernel
theorem zd_XPiece_mixed_0 : decode zb_XPiece_mixed 0 = .ok (.aload_n 0, 1) := by decide +kernel
theorem zd_XPiece_mixed_1 : decode zb_XPiece_mixed 1 = .ok (.getfield 53, 3) := by decide +kernel
theorem zd_XPiece_mixed_4 : decode zb_XPiece_mixed 4 = .ok (.aload_n 0, 1) := by decide +kernel
theorem zd_XPiece_mixed_5 : decode zb_XPiece_mixed 5 = .ok (.getfield 9, 3) := by decide +kernel
theorem zd_XPiece_mixed_8 : decode zb_XPiece_mixed 8 = .ok (.iload_n 1, 1) := by decide +kernel
theorem zd_XPiece_mixed_9 : decode zb_XPiece_mixed 9 = .ok (.iaload, 1) := by decide +kernel
theorem zd_XPiece_mixed_10 : decode zb_XPiece_mixed 10 = .ok (.i2l, 1) := by decide +kernel
theorem zd_XPiece_mixed_11 : decode zb_XPiece_mixed 11 = .ok (.lmul, 1) := by decide +kernel
theorem zd_XPiece_mixed_12 : decode zb_XPiece_mixed 12 = .ok (.aload_n 0, 1) := by decide +kernel
theorem zd_XPiece_mixed_13 : decode zb_XPiece_mixed 13 = .ok (.getfield 60, 3) := by decide +kernel
theorem zd_XPiece_mixed_16 : decode zb_XPiece_mixed 16 = .ok (.aload_n 0, 1) := by decide +kernel
theorem zd_XPiece_mixed_17 : decode zb_XPiece_mixed 17 = .ok (.getfield 9, 3) := by decide +kernel
theorem zd_XPiece_mixed_20 : decode zb_XPiece_mixed 20 = .ok (.bipush 6, 2) := by decide +kernel
theorem zd_XPiece_mixed_22 : decode zb_XPiece_mixed 22 = .ok (.iload_n 1, 1) := by decide +kernel
theorem zd_XPiece_mixed_23 : decode zb_XPiece_mixed 23 = .ok (.iadd, 1) := by decide +kernel
theorem zd_XPiece_mixed_24 : decode zb_XPiece_mixed 24 = .ok (.iaload, 1) := by decide +kernel
theorem zd_XPiece_mixed_25 : decode zb_XPiece_mixed 25 = .ok (.i2l, 1) := by decide +kernel
theorem zd_XPiece_mixed_26 : decode zb_XPiece_mixed 26 = .ok (.lmul, 1) := by decide +kernel
theorem zd_XPiece_mixed_27 : decode zb_XPiece_mixed 27 = .ok (.ladd, 1) := by decide +kernel
theorem zd_XPiece_mixed_28 : decode zb_XPiece_mixed 28 = .ok (.aload_n 0, 1) := by decide +kernel
theorem zd_XPiece_mixed_29 : decode zb_XPiece_mixed 29 = .ok (.getfield 63, 3) := by decide +kernel
theorem zd_XPiece_mixed_32 : decode zb_XPiece_mixed 32 = .ok (.aload_n 0, 1) := by decide +kernel
theorem zd_XPiece_mixed_33 : decode zb_XPiece_mixed 33 = .ok (.getfield 9, 3) := by decide +kernel
theorem zd_XPiece_mixed_36 : decode zb_XPiece_mixed 36 = .ok (.bipush 12, 2) := by decide +kernel
theorem zd_XPiece_mixed_38 : decode zb_XPiece_mixed 38 = .ok (.iload_n 1, 1) := by decide +kernel
theorem zd_XPiece_mixed_39 : decode zb_XPiece_mixed 39 = .ok (.iadd, 1) := by decide +kernel
theorem zd_XPiece_mixed_40 : decode zb_XPiece_mixed 40 = .ok (.iaload, 1) := by decide +kernel
theorem zd_XPiece_mixed_41 : decode zb_XPiece_mixed 41 = .ok (.i2l, 1) := by decide +kernel
theorem zd_XPiece_mixed_42 : decode zb_XPiece_mixed 42 = .ok (.lmul, 1) := by decide +kernel
theorem zd_XPiece_mixed_43 : decode zb_XPiece_mixed 43 = .ok (.ladd, 1) := by decide +kernel
theorem zd_XPiece_mixed_44 : decode zb_XPiece_mixed 44 = .ok (.aload_n 0, 1) := by decide +kernel
theorem zd_XPiece_mixed_45 : decode zb_XPiece_mixed 45 = .ok (.getfield 66, 3) := by decide +kernel
theorem zd_XPiece_mixed_48 : decode zb_XPiece_mixed 48 = .ok (.invokestatic 69, 3) := by decide +kernel
theorem zd_XPiece_mixed_51 : decode zb_XPiece_mixed 51 = .ok (.lreturn, 1) := by decide +kernel
theorem zw_352 : (Jvm.Cond.fieldLink "OrreryBox$Piece" (53 : Nat) "OrreryBox$Piece" "w0" "J") ∈ gw := gw_t 352 (by decide +kernel) rfl
theorem zw_353 : (Jvm.Cond.fieldLink "OrreryBox$Piece" (60 : Nat) "OrreryBox$Piece" "w1" "J") ∈ gw := gw_t 353 (by decide +kernel) rfl
theorem zw_354 : (Jvm.Cond.fieldLink "OrreryBox$Piece" (63 : Nat) "OrreryBox$Piece" "w2" "J") ∈ gw := gw_t 354 (by decide +kernel) rfl
def F_XPiece_mixed (sh : zSh) (mm : zMem) (o : Nat) (x0_ : Int32) : Option (Int64 × zMem) := zoS (sh o) 6 (fun le2 => zoS (sh o) 6 (fun le4 => Option.bind (mm.2.2 o 1) (fun a5 => zoS (sh a5) 100 (fun le7 => if (x0_ : Int32) < 0 ∨ le7 ≤ (x0_ : Int32).toNatClampNeg then none else zoS (sh o) 6 (fun le10 => zoS (sh o) 6 (fun le12 => Option.bind (mm.2.2 o 1) (fun a13 => zoL (6 + x0_) (fun i14 => zoS (sh a13) 100 (fun le16 => if (i14 : Int32) < 0 ∨ le16 ≤ (i14 : Int32).toNatClampNeg then none else zoS (sh o) 6 (fun le19 => zoS (sh o) 6 (fun le21 => Option.bind (mm.2.2 o 1) (fun a22 => zoL (12 + x0_) (fun i23 => zoS (sh a22) 100 (fun le25 => if (i23 : Int32) < 0 ∨ le25 ≤ (i23 : Int32).toNatClampNeg then none else zoS (sh o) 6 (fun le28 => zoL ((((mm.2.1 o 2) * (((mm.1 a5 (x0_ : Int32).toNatClampNeg) : Int32).toInt64)) + ((mm.2.1 o 3) * (((mm.1 a13 (i14 : Int32).toNatClampNeg) : Int32).toInt64))) + ((mm.2.1 o 4) * (((mm.1 a22 (i23 : Int32).toNatClampNeg) : Int32).toInt64))) (fun x29 => some ((zx_div x29 (mm.2.1 o 5)), mm)))))))))))))))))
set_option maxHeartbeats 4000000 in
set_option maxRecDepth 100000 in
theorem k_XPiece_mixed (l : Launch) (D : va_G) (tA : Nat → ClassId) (b : Nat) (sh : zSh) (n : Nat) {mm : zMem} {o : Nat} {x0_ : Int32} {r : (Int64 × zMem)} (h : F_XPiece_mixed sh mm o x0_ = some r) : zM l D tA b zy_XPiece_mixed zb_XPiece_mixed 2 (some .long) 2 48 0 0 [.ref (b + o), .int x0_] (zW tA b sh mm) n (zE (some (.long (r.1))) (zW tA b sh r.2) n) := by
  unfold F_XPiece_mixed at h
  refine zM_of (own := "OrreryBox$Piece") (plainFor_of_name (by decide)) rfl (Nat.le_of_ble_eq_true rfl) (fun p e s m below meth c F hr hin hH => ?_)
  refine zr_aload_n F zd_XPiece_mixed_0 rfl ?_
  obtain ⟨le2, hs1, h⟩ := zoS_s h
  refine zr_get F 6 2 zd_XPiece_mixed_1 (zW_o hs1 (by decide)) rfl (by decide) zw_352 rfl (by rfl) ?_
  refine zr_aload_n F zd_XPiece_mixed_4 rfl ?_
  obtain ⟨le4, hs3, h⟩ := zoS_s h
  obtain ⟨a5, ea5, h⟩ := zoB_s h
  refine zr_get F 6 1 zd_XPiece_mixed_5 (zW_o hs3 (by decide)) rfl (by decide) zw_351 rfl (by rfl) ?_
  refine zr_tor ea5 ?_
  refine zr_iload_n F zd_XPiece_mixed_8 rfl ?_
  obtain ⟨le7, hs6, h⟩ := zoS_s h
  obtain ⟨hi8, h⟩ := zoI_s h
  refine zr_iald F zd_XPiece_mixed_9 (zW_a0 hs6) hi8 ?_
  refine zr_i2l F zd_XPiece_mixed_10 ?_
  refine zr_pcn 11 rfl ?_
  refine zr_lmul F zd_XPiece_mixed_11 ?_
  refine zr_aload_n F zd_XPiece_mixed_12 rfl ?_
  obtain ⟨le10, hs9, h⟩ := zoS_s h
  refine zr_get F 6 3 zd_XPiece_mixed_13 (zW_o hs9 (by decide)) rfl (by decide) zw_353 rfl (by rfl) ?_
  refine zr_aload_n F zd_XPiece_mixed_16 rfl ?_
  obtain ⟨le12, hs11, h⟩ := zoS_s h
  obtain ⟨a13, ea13, h⟩ := zoB_s h
  refine zr_get F 6 1 zd_XPiece_mixed_17 (zW_o hs11 (by decide)) rfl (by decide) zw_351 rfl (by rfl) ?_
  refine zr_tor ea13 ?_
  refine zr_bipushv (v := 6) F zd_XPiece_mixed_20 (by decide) ?_
  refine zr_iload_n F zd_XPiece_mixed_22 rfl ?_
  refine zr_iadd F zd_XPiece_mixed_23 ?_
  refine zr_pcn 24 rfl ?_
  obtain ⟨i14, ei14, h⟩ := zoL_s h
  rw [← ei14]
  obtain ⟨le16, hs15, h⟩ := zoS_s h
  obtain ⟨hi17, h⟩ := zoI_s h
  refine zr_iald F zd_XPiece_mixed_24 (zW_a0 hs15) hi17 ?_
  refine zr_i2l F zd_XPiece_mixed_25 ?_
  refine zr_lmul F zd_XPiece_mixed_26 ?_
  refine zr_ladd F zd_XPiece_mixed_27 ?_
  refine zr_aload_n F zd_XPiece_mixed_28 rfl ?_
  obtain ⟨le19, hs18, h⟩ := zoS_s h
  refine zr_get F 6 4 zd_XPiece_mixed_29 (zW_o hs18 (by decide)) rfl (by decide) zw_354 rfl (by rfl) ?_
  refine zr_aload_n F zd_XPiece_mixed_32 rfl ?_
  obtain ⟨le21, hs20, h⟩ := zoS_s h
  obtain ⟨a22, ea22, h⟩ := zoB_s h
  refine zr_get F 6 1 zd_XPiece_mixed_33 (zW_o hs20 (by decide)) rfl (by decide) zw_351 rfl (by rfl) ?_
  refine zr_tor ea22 ?_
  refine zr_pcn 36 rfl ?_
  refine zr_bipushv (v := 12) F zd_XPiece_mixed_36 (by decide) ?_
  refine zr_iload_n F zd_XPiece_mixed_38 rfl ?_
  refine zr_iadd F zd_XPiece_mixed_39 ?_
  obtain ⟨i23, ei23, h⟩ := zoL_s h
  rw [← ei23]
  obtain ⟨le25, hs24, h⟩ := zoS_s h
  obtain ⟨hi26, h⟩ := zoI_s h
  refine zr_iald F zd_XPiece_mixed_40 (zW_a0 hs24) hi26 ?_
  refine zr_i2l F zd_XPiece_mixed_41 ?_
  refine zr_lmul F zd_XPiece_mixed_42 ?_
  refine zr_ladd F zd_XPiece_mixed_43 ?_
  refine zr_aload_n F zd_XPiece_mixed_44 rfl ?_
  refine zr_pcn 45 rfl ?_
  obtain ⟨le28, hs27, h⟩ := zoS_s h
  refine zr_get F 6 5 zd_XPiece_mixed_45 (zW_o hs27 (by decide)) rfl (by decide) zw_355 rfl (by rfl) ?_
  obtain ⟨x29, ex29, h⟩ := zoL_s h
  rw [← ex29]
  refine zr_callS1 F (c_XFixed_div l D tA b _ _ x29 (mm.2.1 o 5)) zd_XPiece_mixed_48 zs_XPiece_69 zq_XFixed_div rfl rfl ⟨(Nat.le_of_ble_eq_true rfl), (Nat.le_of_ble_eq_true rfl)⟩ (Nat.le_of_ble_eq_true rfl) ⟨(Nat.le_of_ble_eq_true rfl), (Nat.le_of_ble_eq_true rfl)⟩ ?_
  obtain rfl := Option.some.inj h
  exact zr_lret F hr zd_XPiece_mixed_51 (Nat.le_of_ble_eq_true rfl) (Nat.le_of_ble_eq_true rfl) ⟨rfl, rfl, rfl⟩
abbrev zb_XReader_wordOf : ByteArray := prog_8_method_3_code
def zy_XReader_wordOf : MethodName := ⟨"OrreryBox$Reader", "wordOf", "(I)Ljava/lang/String;"⟩
theorem zc_XReader_wordOf : Cond.code zy_XReader_wordOf zb_XReader_wordOf 1 (some (.object "java/lang/String")) ∈ gw := gw_t 1162 (by decide +kernel) rfl
theorem zq_XReader_wordOf : zy_XReader_wordOf.cls ≠ "java/lang/invoke/MethodHandle" ∧ zy_XReader_wordOf.cls ≠ "java/lang/invoke/VarHandle" ∧ (parseMethodDescriptor zy_XReader_wordOf.desc).map (fun d => d.parameters.length) = some 1 := by decide +kernel
theorem zd_XReader_wordOf_0 : decode zb_XReader_wordOf 0 = .ok (.iload_n 0, 1) := by decide +kernel
theorem zd_XReader_wordOf_1 : decode zb_XReader_wordOf 1 = .ok (.tableswitch 57 0 5 #[39, 42, 45, 48, 51, 54], 39) := by decide +kernel
theorem zd_XReader_wordOf_40 : decode zb_XReader_wordOf 40 = .ok (.ldc 81, 2) := by decide +kernel
theorem zd_XReader_wordOf_42 : decode zb_XReader_wordOf 42 = .ok (.areturn, 1) := by decide +kernel
theorem zd_XReader_wordOf_43 : decode zb_XReader_wordOf 43 = .ok (.ldc 83, 2) := by decide +kernel
theorem zd_XReader_wordOf_45 : decode zb_XReader_wordOf 45 = .ok (.areturn, 1) := by decide +kernel
theorem zd_XReader_wordOf_46 : decode zb_XReader_wordOf 46 = .ok (.ldc 85, 2) := by decide +kernel
theorem zd_XReader_wordOf_48 : decode zb_XReader_wordOf 48 = .ok (.areturn, 1) := by decide +kernel
theorem zd_XReader_wordOf_49 : decode zb_XReader_wordOf 49 = .ok (.ldc 87, 2) := by decide +kernel
theorem zd_XReader_wordOf_51 : decode zb_XReader_wordOf 51 = .ok (.areturn, 1) := by decide +kernel
theorem zd_XReader_wordOf_52 : decode zb_XReader_wordOf 52 = .ok (.ldc 89, 2) := by decide +kernel
theorem zd_XReader_wordOf_54 : decode zb_XReader_wordOf 54 = .ok (.areturn, 1) := by decide +kernel
theorem zd_XReader_wordOf_55 : decode zb_XReader_wordOf 55 = .ok (.ldc 91, 2) := by decide +kernel
theorem zd_XReader_wordOf_57 : decode zb_XReader_wordOf 57 = .ok (.areturn, 1) := by decide +kernel
theorem zd_XReader_wordOf_58 : decode zb_XReader_wordOf 58 = .ok (.ldc 93, 2) := by decide +kernel
theorem zd_XReader_wordOf_60 : decode zb_XReader_wordOf 60 = .ok (.areturn, 1) := by decide +kernel
def F_XReader_wordOf (sh : zSh) (mm : zMem) (x0_ : Int32) : Option (Nat × zMem) := (if x0_ = 0 then some (3, mm) else (if x0_ = 1 then some (4, mm) else (if x0_ = 2 then some (5, mm) else (if x0_ = 3 then some (6, mm) else (if x0_ = 4 then some (7, mm) else (if x0_ = 5 then some (8, mm) else some (9, mm)))))))
set_option maxHeartbeats 4000000 in
set_option maxRecDepth 100000 in
theorem k_XReader_wordOf (l : Launch) (D : va_G) (tA : Nat → ClassId) (b : Nat) (sh : zSh) (n : Nat) {mm : zMem} {x0_ : Int32} {r : (Nat × zMem)} (h : F_XReader_wordOf sh mm x0_ = some r) : zM l D tA b zy_XReader_wordOf zb_XReader_wordOf 1 (some (.object "java/lang/String")) 0 0 0 0 [.int x0_] (zW tA b sh mm) n (zE (some (.ref (D.2 1000 (r.1)))) (zW tA b sh r.2) n) := by
  unfold F_XReader_wordOf at h
  refine zM_of (own := "OrreryBox$Reader") (plainFor_of_name (by decide)) rfl (Nat.le_of_ble_eq_true rfl) (fun p e s m below meth c F hr hin hH => ?_)
  refine zr_iload_n F zd_XReader_wordOf_0 rfl ?_
  by_cases hb1_0 : x0_ = 0
  ·
    rw [if_pos hb1_0] at h
    refine zr_tableIn F 40 zd_XReader_wordOf_1 (by rw [hb1_0]; decide) (by rw [hb1_0]; decide) (by rw [hb1_0]; rfl) (by decide) ?_
    refine zr_ldcS F 3 "textures" zd_XReader_wordOf_40 (by decide +kernel) ?_
    obtain rfl := Option.some.inj h
    exact zr_aret F hr (Or.inl ⟨_, rfl⟩) (Or.inr ⟨_, rfl⟩) zd_XReader_wordOf_42 (Nat.le_of_ble_eq_true rfl) (Nat.le_of_ble_eq_true rfl) ⟨rfl, rfl, rfl⟩
  ·
    rw [if_neg hb1_0] at h
    by_cases hb1_1 : x0_ = 1
    ·
      rw [if_pos hb1_1] at h
      refine zr_tableIn F 43 zd_XReader_wordOf_1 (by rw [hb1_1]; decide) (by rw [hb1_1]; decide) (by rw [hb1_1]; rfl) (by decide) ?_
      refine zr_ldcS F 4 "materials" zd_XReader_wordOf_43 (by decide +kernel) ?_
      obtain rfl := Option.some.inj h
      exact zr_aret F hr (Or.inl ⟨_, rfl⟩) (Or.inr ⟨_, rfl⟩) zd_XReader_wordOf_45 (Nat.le_of_ble_eq_true rfl) (Nat.le_of_ble_eq_true rfl) ⟨rfl, rfl, rfl⟩
    ·
      rw [if_neg hb1_1] at h
      by_cases hb1_2 : x0_ = 2
      ·
        rw [if_pos hb1_2] at h
        refine zr_tableIn F 46 zd_XReader_wordOf_1 (by rw [hb1_2]; decide) (by rw [hb1_2]; decide) (by rw [hb1_2]; rfl) (by decide) ?_
        refine zr_ldcS F 5 "meshes" zd_XReader_wordOf_46 (by decide +kernel) ?_
        refine zr_pcn 48 rfl ?_
        obtain rfl := Option.some.inj h
        exact zr_aret F hr (Or.inl ⟨_, rfl⟩) (Or.inr ⟨_, rfl⟩) zd_XReader_wordOf_48 (Nat.le_of_ble_eq_true rfl) (Nat.le_of_ble_eq_true rfl) ⟨rfl, rfl, rfl⟩
      ·
        rw [if_neg hb1_2] at h
        by_cases hb1_3 : x0_ = 3
        ·
          rw [if_pos hb1_3] at h
          refine zr_tableIn F 49 zd_XReader_wordOf_1 (by rw [hb1_3]; decide) (by rw [hb1_3]; decide) (by rw [hb1_3]; rfl) (by decide) ?_
          refine zr_ldcS F 6 "nodes" zd_XReader_wordOf_49 (by decide +kernel) ?_
          obtain rfl := Option.some.inj h
          exact zr_aret F hr (Or.inl ⟨_, rfl⟩) (Or.inr ⟨_, rfl⟩) zd_XReader_wordOf_51 (Nat.le_of_ble_eq_true rfl) (Nat.le_of_ble_eq_true rfl) ⟨rfl, rfl, rfl⟩
        ·
          rw [if_neg hb1_3] at h
          by_cases hb1_4 : x0_ = 4
          ·
            rw [if_pos hb1_4] at h
            refine zr_tableIn F 52 zd_XReader_wordOf_1 (by rw [hb1_4]; decide) (by rw [hb1_4]; decide) (by rw [hb1_4]; rfl) (by decide) ?_
            refine zr_ldcS F 7 "tracks" zd_XReader_wordOf_52 (by decide +kernel) ?_
            obtain rfl := Option.some.inj h
            exact zr_aret F hr (Or.inl ⟨_, rfl⟩) (Or.inr ⟨_, rfl⟩) zd_XReader_wordOf_54 (Nat.le_of_ble_eq_true rfl) (Nat.le_of_ble_eq_true rfl) ⟨rfl, rfl, rfl⟩
          ·
            rw [if_neg hb1_4] at h
            by_cases hb1_5 : x0_ = 5
            ·
              rw [if_pos hb1_5] at h
              refine zr_tableIn F 55 zd_XReader_wordOf_1 (by rw [hb1_5]; decide) (by rw [hb1_5]; decide) (by rw [hb1_5]; rfl) (by decide) ?_
              refine zr_ldcS F 8 "camera" zd_XReader_wordOf_55 (by decide +kernel) ?_
              obtain rfl := Option.some.inj h
              exact zr_aret F hr (Or.inl ⟨_, rfl⟩) (Or.inr ⟨_, rfl⟩) zd_XReader_wordOf_57 (Nat.le_of_ble_eq_true rfl) (Nat.le_of_ble_eq_true rfl) ⟨rfl, rfl, rfl⟩
            ·
              rw [if_neg hb1_5] at h
              refine zr_tableOut F 58 zd_XReader_wordOf_1 (zx_out x0_ 0 5 (by decide) (by decide) (by decide) (by omega) (fun j hj => by match j, hj with | 0, _ => exact hb1_0 | 1, _ => exact hb1_1 | 2, _ => exact hb1_2 | 3, _ => exact hb1_3 | 4, _ => exact hb1_4 | 5, _ => exact hb1_5 | j + 6, hq => exact absurd hq (by omega))) (by decide) ?_
              refine zr_ldcS F 9 "light" zd_XReader_wordOf_58 (by decide +kernel) ?_
              refine zr_pcn 60 rfl ?_
              obtain rfl := Option.some.inj h
              exact zr_aret F hr (Or.inl ⟨_, rfl⟩) (Or.inr ⟨_, rfl⟩) zd_XReader_wordOf_60 (Nat.le_of_ble_eq_true rfl) (Nat.le_of_ble_eq_true rfl) ⟨rfl, rfl, rfl⟩
abbrev zb_XReader_seesWord : ByteArray := prog_8_method_16_code
def zy_XReader_seesWord : MethodName := ⟨"OrreryBox$Reader", "seesWord", "(Ljava/lang/String;)Z"⟩
theorem zc_XReader_seesWord : Cond.code zy_XReader_seesWord zb_XReader_seesWord 4 (some .boolean) ∈ gw := gw_t 1173 (by decide +kernel) rfl
theorem zq_XReader_seesWord : zy_XReader_seesWord.cls ≠ "java/lang/invoke/MethodHandle" ∧ zy_XReader_seesWord.cls ≠ "java/lang/invoke/VarHandle" ∧ (parseMethodDescriptor zy_XReader_seesWord.desc).map (fun d => d.parameters.length) = some 1 := by decide +kernel
theorem zd_XReader_seesWord_0 : decode zb_XReader_seesWord 0 = .ok (.aload_n 0, 1) := by decide +kernel
theorem zd_XReader_seesWord_1 : decode zb_XReader_seesWord 1 = .ok (.getfield 27, 3) := by decide +kernel
theorem zd_XReader_seesWord_4 : decode zb_XReader_seesWord 4 = .ok (.aload_n 1, 1) := by decide +kernel
theorem zd_XReader_seesWord_5 : decode zb_XReader_seesWord 5 = .ok (.invokevirtual 289, 3) := by decide +kernel
theorem zd_XReader_seesWord_8 : decode zb_XReader_seesWord 8 = .ok (.iadd, 1) := by decide +kernel
theorem zd_XReader_seesWord_9 : decode zb_XReader_seesWord 9 = .ok (.iconst 1, 1) := by decide +kernel
theorem zd_XReader_seesWord_10 : decode zb_XReader_seesWord 10 = .ok (.iadd, 1) := by decide +kernel
theorem zd_XReader_seesWord_11 : decode zb_XReader_seesWord 11 = .ok (.istore_n 2, 1) := by decide +kernel
theorem zd_XReader_seesWord_12 : decode zb_XReader_seesWord 12 = .ok (.iload_n 2, 1) := by decide +kernel
theorem zd_XReader_seesWord_13 : decode zb_XReader_seesWord 13 = .ok (.aload_n 0, 1) := by decide +kernel
theorem zd_XReader_seesWord_14 : decode zb_XReader_seesWord 14 = .ok (.getfield 19, 3) := by decide +kernel
theorem zd_XReader_seesWord_17 : decode zb_XReader_seesWord 17 = .ok (.if_icmp .ge 28, 3) := by decide +kernel
theorem zd_XReader_seesWord_20 : decode zb_XReader_seesWord 20 = .ok (.aload_n 0, 1) := by decide +kernel
theorem zd_XReader_seesWord_21 : decode zb_XReader_seesWord 21 = .ok (.getfield 15, 3) := by decide +kernel
theorem zd_XReader_seesWord_24 : decode zb_XReader_seesWord 24 = .ok (.aload_n 0, 1) := by decide +kernel
theorem zd_XReader_seesWord_25 : decode zb_XReader_seesWord 25 = .ok (.getfield 27, 3) := by decide +kernel
theorem zd_XReader_seesWord_28 : decode zb_XReader_seesWord 28 = .ok (.baload, 1) := by decide +kernel
theorem zd_XReader_seesWord_29 : decode zb_XReader_seesWord 29 = .ok (.bipush 34, 2) := by decide +kernel
theorem zd_XReader_seesWord_31 : decode zb_XReader_seesWord 31 = .ok (.if_icmp .ne 14, 3) := by decide +kernel
theorem zd_XReader_seesWord_34 : decode zb_XReader_seesWord 34 = .ok (.aload_n 0, 1) := by decide +kernel
theorem zd_XReader_seesWord_35 : decode zb_XReader_seesWord 35 = .ok (.getfield 15, 3) := by decide +kernel
theorem zd_XReader_seesWord_38 : decode zb_XReader_seesWord 38 = .ok (.iload_n 2, 1) := by decide +kernel
theorem zd_XReader_seesWord_39 : decode zb_XReader_seesWord 39 = .ok (.baload, 1) := by decide +kernel
theorem zd_XReader_seesWord_40 : decode zb_XReader_seesWord 40 = .ok (.bipush 34, 2) := by decide +kernel
theorem zd_XReader_seesWord_42 : decode zb_XReader_seesWord 42 = .ok (.if_icmp .eq 5, 3) := by decide +kernel
theorem zd_XReader_seesWord_45 : decode zb_XReader_seesWord 45 = .ok (.iconst 0, 1) := by decide +kernel
theorem zd_XReader_seesWord_46 : decode zb_XReader_seesWord 46 = .ok (.ireturn, 1) := by decide +kernel
theorem zd_XReader_seesWord_47 : decode zb_XReader_seesWord 47 = .ok (.iconst 0, 1) := by decide +kernel
theorem zd_XReader_seesWord_48 : decode zb_XReader_seesWord 48 = .ok (.istore_n 3, 1) := by decide +kernel
theorem zd_XReader_seesWord_49 : decode zb_XReader_seesWord 49 = .ok (.iload_n 3, 1) := by decide +kernel
theorem zd_XReader_seesWord_50 : decode zb_XReader_seesWord 50 = .ok (.aload_n 1, 1) := by decide +kernel
theorem zd_XReader_seesWord_51 : decode zb_XReader_seesWord 51 = .ok (.invokevirtual 289, 3) := by decide +kernel
theorem zd_XReader_seesWord_54 : decode zb_XReader_seesWord 54 = .ok (.if_icmp .ge 32, 3) := by decide +kernel
theorem zd_XReader_seesWord_57 : decode zb_XReader_seesWord 57 = .ok (.aload_n 0, 1) := by decide +kernel
theorem zd_XReader_seesWord_58 : decode zb_XReader_seesWord 58 = .ok (.getfield 15, 3) := by decide +kernel
theorem zd_XReader_seesWord_61 : decode zb_XReader_seesWord 61 = .ok (.aload_n 0, 1) := by decide +kernel
theorem zd_XReader_seesWord_62 : decode zb_XReader_seesWord 62 = .ok (.getfield 27, 3) := by decide +kernel
theorem zd_XReader_seesWord_65 : decode zb_XReader_seesWord 65 = .ok (.iconst 1, 1) := by decide +kernel
theorem zd_XReader_seesWord_66 : decode zb_XReader_seesWord 66 = .ok (.iadd, 1) := by decide +kernel
theorem zd_XReader_seesWord_67 : decode zb_XReader_seesWord 67 = .ok (.iload_n 3, 1) := by decide +kernel
theorem zd_XReader_seesWord_68 : decode zb_XReader_seesWord 68 = .ok (.iadd, 1) := by decide +kernel
theorem zd_XReader_seesWord_69 : decode zb_XReader_seesWord 69 = .ok (.baload, 1) := by decide +kernel
theorem zd_XReader_seesWord_70 : decode zb_XReader_seesWord 70 = .ok (.aload_n 1, 1) := by decide +kernel
theorem zd_XReader_seesWord_71 : decode zb_XReader_seesWord 71 = .ok (.iload_n 3, 1) := by decide +kernel
theorem zd_XReader_seesWord_72 : decode zb_XReader_seesWord 72 = .ok (.invokevirtual 294, 3) := by decide +kernel
theorem zd_XReader_seesWord_75 : decode zb_XReader_seesWord 75 = .ok (.if_icmp .eq 5, 3) := by decide +kernel
theorem zd_XReader_seesWord_78 : decode zb_XReader_seesWord 78 = .ok (.iconst 0, 1) := by decide +kernel
theorem zd_XReader_seesWord_79 : decode zb_XReader_seesWord 79 = .ok (.ireturn, 1) := by decide +kernel
theorem zd_XReader_seesWord_80 : decode zb_XReader_seesWord 80 = .ok (.iinc 3 1, 3) := by decide +kernel
theorem zd_XReader_seesWord_83 : decode zb_XReader_seesWord 83 = .ok (.goto (-34), 3) := by decide +kernel
theorem zd_XReader_seesWord_86 : decode zb_XReader_seesWord 86 = .ok (.iconst 1, 1) := by decide +kernel
theorem zd_XReader_seesWord_87 : decode zb_XReader_seesWord 87 = .ok (.ireturn, 1) := by decide +kernel
theorem zw_1174 : (Jvm.Cond.methodLink "OrreryBox$Reader" (289 : Nat) ({ cls := "java/lang/String", name := "length", desc := "()I" } : Jvm.MethodName)) ∈ gw := gw_t 1174 (by decide +kernel) rfl
theorem zs_XReader_289 : zwV "OrreryBox$Reader" 289 "java/lang/String" zy_JString_length zb_JString_length 1 (some .int) := ⟨zw_1174, zw_951, zw_952, zw_22, zc_JString_length⟩
theorem zw_1175 : (Jvm.Cond.methodLink "OrreryBox$Reader" (294 : Nat) ({ cls := "java/lang/String", name := "charAt", desc := "(I)C" } : Jvm.MethodName)) ∈ gw := gw_t 1175 (by decide +kernel) rfl
theorem zs_XReader_294 : zwV "OrreryBox$Reader" 294 "java/lang/String" zy_JString_charAt zb_JString_charAt 2 (some .char) := ⟨zw_1175, zw_961, zw_962, zw_22, zc_JString_charAt⟩
def L_XReader_seesWord_49 (sh : zSh) (fuel : Nat) (v0 : Nat) (v1 : Nat) (v3 : Int32) (mm : zMem) : Option (Nat × Int32 × Nat × Nat × Int32 × zMem) := match fuel with
  | 0 => none
  | fu + 1 => (if v1 < 67 then (if (ztxn v1) ≤ v3 then some (1, (0 : Int32), v0, v1, v3, mm) else zoS (sh v0) 7 (fun le28 => Option.bind (mm.2.2 v0 3) (fun a29 => zoS (sh v0) 7 (fun le31 => zoL (((mm.1 v0 5) + 1) + v3) (fun i32 => zoS (sh a29) 101 (fun le34 => if (i32 : Int32) < 0 ∨ le34 ≤ (i32 : Int32).toNatClampNeg then none else (if v1 < 67 ∧ ¬ (v3 : Int32) < 0 ∧ (v3 : Int32) < ztxn v1 then (if (mm.1 a29 (i32 : Int32).toNatClampNeg) = (ztxc v1 (v3 : Int32).toNatClampNeg) then L_XReader_seesWord_49 sh fu v0 v1 (v3 + 1) mm else some (0, 0, (0 : Nat), (0 : Nat), (0 : Int32), mm)) else none))))))) else none)
set_option maxHeartbeats 4000000 in
set_option maxRecDepth 100000 in
theorem lp_XReader_seesWord_49 {p : Program} {l : Launch} {e : Env} {s : State} {m : MethodId} {args : Array Value} {below : List Frame} {meth : Method} {c : Code} {D : va_G} {tA : Nat → ClassId} {b n : Nat} {post : Option Value → zV → Nat → Prop} {sh : zSh} (F : zF p s m args meth c zb_XReader_seesWord 4 "OrreryBox$Reader" D tA b) (hr : meth.sig.returnType = (some .boolean)) : ∀ (fuel : Nat) (v0 : Nat) (v1 : Nat) (v3 : Int32) (mm : zMem) (r : Nat × Int32 × Nat × Nat × Int32 × zMem), L_XReader_seesWord_49 sh fuel v0 v1 v3 mm = some r → (r.1 = 1 → Z p l e { frames := 4, cells := 0, slots := 0, locals := 85 } s m args below meth c D b 4 (MQ below (zQ D b post) args s 0 0 (fun q => b ≤ q)) (zW tA b sh r.2.2.2.2.2) n 0 0 86 [(0, .ref (b + (r.2.2.1))), (1, .ref (D.2 1000 (r.2.2.2.1))), (3, .int (r.2.2.2.2.1))] []) → (r.1 = 0 → post (some (.int r.2.1)) (zW tA b sh r.2.2.2.2.2) n) → Z p l e { frames := 4, cells := 0, slots := 0, locals := 85 } s m args below meth c D b 4 (MQ below (zQ D b post) args s 0 0 (fun q => b ≤ q)) (zW tA b sh mm) n 0 0 49 [(0, .ref (b + v0)), (1, .ref (D.2 1000 v1)), (3, .int v3)] [] := by
  intro fuel
  induction fuel with
  | zero =>
    intro v0 v1 v3 mm r h
    cases h
  | succ fu ih =>
    intro v0 v1 v3 mm r h hx0 hp
    rw [L_XReader_seesWord_49] at h
    refine zr_pcn 49 rfl ?_
    refine zr_iload_n F zd_XReader_seesWord_49 rfl ?_
    refine zr_aload_n F zd_XReader_seesWord_50 rfl ?_
    obtain ⟨hg25, h⟩ := zoT_s h
    refine zr_callT F hg25 (c_JString_length l D tA b _ _ v1 hg25) zd_XReader_seesWord_51 zs_XReader_289 rfl zq_JString_length rfl rfl ⟨(Nat.le_of_ble_eq_true rfl), (Nat.le_of_ble_eq_true rfl)⟩ (Nat.le_of_ble_eq_true rfl) ⟨(Nat.le_of_ble_eq_true rfl), (Nat.le_of_ble_eq_true rfl)⟩ ?_
    refine zr_icmp_ge F 86 zd_XReader_seesWord_54 (by decide) (fun hb26 => ?_) (fun hb26 => ?_)
    ·
      rw [if_pos hb26] at h
      obtain rfl := Option.some.inj h
      refine zr_loc (L' := [(0, .ref (b + v0)), (1, .ref (D.2 1000 v1)), (3, .int v3)]) ⟨rfl, rfl, rfl, trivial⟩ ?_
      exact hx0 rfl
    ·
      rw [if_neg hb26] at h
      refine zr_aload_n F zd_XReader_seesWord_57 rfl ?_
      obtain ⟨le28, hs27, h⟩ := zoS_s h
      obtain ⟨a29, ea29, h⟩ := zoB_s h
      refine zr_get F 7 3 zd_XReader_seesWord_58 (zW_o hs27 (by decide)) rfl (by decide) zw_51 rfl (by rfl) ?_
      refine zr_tor ea29 ?_
      refine zr_aload_n F zd_XReader_seesWord_61 rfl ?_
      obtain ⟨le31, hs30, h⟩ := zoS_s h
      refine zr_get F 7 5 zd_XReader_seesWord_62 (zW_o hs30 (by decide)) rfl (by decide) zw_53 rfl (by rfl) ?_
      refine zr_pcn 65 rfl ?_
      refine zr_iconstv (v := 1) F zd_XReader_seesWord_65 (by decide) ?_
      refine zr_iadd F zd_XReader_seesWord_66 ?_
      refine zr_iload_n F zd_XReader_seesWord_67 rfl ?_
      refine zr_iadd F zd_XReader_seesWord_68 ?_
      obtain ⟨i32, ei32, h⟩ := zoL_s h
      rw [← ei32]
      obtain ⟨le34, hs33, h⟩ := zoS_s h
      obtain ⟨hi35, h⟩ := zoI_s h
      refine zr_bald F zd_XReader_seesWord_69 (zW_a1 hs33) hi35 ?_
      refine zr_aload_n F zd_XReader_seesWord_70 rfl ?_
      refine zr_iload_n F zd_XReader_seesWord_71 rfl ?_
      obtain ⟨hg36, h⟩ := zoT_s h
      refine zr_callT F hg36.1 (c_JString_charAt l D tA b _ _ v1 v3 hg36.1 hg36.2.1 hg36.2.2) zd_XReader_seesWord_72 zs_XReader_294 rfl zq_JString_charAt rfl rfl ⟨(Nat.le_of_ble_eq_true rfl), (Nat.le_of_ble_eq_true rfl)⟩ (Nat.le_of_ble_eq_true rfl) ⟨(Nat.le_of_ble_eq_true rfl), (Nat.le_of_ble_eq_true rfl)⟩ ?_
      refine zr_pcn 75 rfl ?_
      refine zr_icmp_eq F 80 zd_XReader_seesWord_75 (by decide) (fun hb37 => ?_) (fun hb37 => ?_)
      ·
        rw [if_pos hb37] at h
        refine zr_iinc (v := (v3 + 1)) F zd_XReader_seesWord_80 rfl rfl (by decide) ?_
        refine zr_goto F 49 zd_XReader_seesWord_83 (by decide) ?_
        refine zr_loc (L' := [(0, .ref (b + v0)), (1, .ref (D.2 1000 v1)), (3, .int (v3 + 1))]) ⟨rfl, rfl, rfl, trivial⟩ ?_
        exact ih _ _ _ _ _ h hx0 hp
      ·
        rw [if_neg hb37] at h
        refine zr_iconstv (v := 0) F zd_XReader_seesWord_78 (by decide) ?_
        obtain rfl := Option.some.inj h
        exact zr_zret F hr rfl zd_XReader_seesWord_79 (Nat.le_of_ble_eq_true rfl) (Nat.le_of_ble_eq_true rfl) (hp rfl)
def F_XReader_seesWord (sh : zSh) (mm : zMem) (o : Nat) (x0_ : Nat) : Option (Int32 × zMem) := zoS (sh o) 7 (fun le2 => (if x0_ < 67 then zoL (((mm.1 o 5) + (ztxn x0_)) + 1) (fun x4 => zoS (sh o) 7 (fun le6 => (if (mm.1 o 4) ≤ x4 then some (0, mm) else zoS (sh o) 7 (fun le9 => Option.bind (mm.2.2 o 3) (fun a10 => zoS (sh o) 7 (fun le12 => zoL (mm.1 o 5) (fun i13 => zoS (sh a10) 101 (fun le15 => if (i13 : Int32) < 0 ∨ le15 ≤ (i13 : Int32).toNatClampNeg then none else (if (mm.1 a10 (i13 : Int32).toNatClampNeg) = 34 then zoS (sh o) 7 (fun le19 => Option.bind (mm.2.2 o 3) (fun a20 => zoS (sh a20) 101 (fun le22 => if (x4 : Int32) < 0 ∨ le22 ≤ (x4 : Int32).toNatClampNeg then none else (if (mm.1 a20 (x4 : Int32).toNatClampNeg) = 34 then Option.bind (L_XReader_seesWord_49 sh zfuel o x0_ 0 mm) (fun q38 => (if q38.1 = 1 then some (1, q38.2.2.2.2.2) else some (q38.2.1, q38.2.2.2.2.2))) else some (0, mm))))) else some (0, mm)))))))))) else none))
set_option maxHeartbeats 4000000 in
set_option maxRecDepth 100000 in
theorem k_XReader_seesWord (l : Launch) (D : va_G) (tA : Nat → ClassId) (b : Nat) (sh : zSh) (n : Nat) {mm : zMem} {o : Nat} {x0_ : Nat} {r : (Int32 × zMem)} (h : F_XReader_seesWord sh mm o x0_ = some r) : zM l D tA b zy_XReader_seesWord zb_XReader_seesWord 4 (some .boolean) 4 85 0 0 [.ref (b + o), .ref (D.2 1000 x0_)] (zW tA b sh mm) n (zE (some (.int (r.1))) (zW tA b sh r.2) n) := by
  unfold F_XReader_seesWord at h
  refine zM_of (own := "OrreryBox$Reader") (plainFor_of_name (by decide)) rfl (Nat.le_of_ble_eq_true rfl) (fun p e s m below meth c F hr hin hH => ?_)
  refine zr_aload_n F zd_XReader_seesWord_0 rfl ?_
  obtain ⟨le2, hs1, h⟩ := zoS_s h
  refine zr_get F 7 5 zd_XReader_seesWord_1 (zW_o hs1 (by decide)) rfl (by decide) zw_53 rfl (by rfl) ?_
  refine zr_aload_n F zd_XReader_seesWord_4 rfl ?_
  obtain ⟨hg3, h⟩ := zoT_s h
  refine zr_callT F hg3 (c_JString_length l D tA b _ _ x0_ hg3) zd_XReader_seesWord_5 zs_XReader_289 rfl zq_JString_length rfl rfl ⟨(Nat.le_of_ble_eq_true rfl), (Nat.le_of_ble_eq_true rfl)⟩ (Nat.le_of_ble_eq_true rfl) ⟨(Nat.le_of_ble_eq_true rfl), (Nat.le_of_ble_eq_true rfl)⟩ ?_
  refine zr_iadd F zd_XReader_seesWord_8 ?_
  refine zr_iconstv (v := 1) F zd_XReader_seesWord_9 (by decide) ?_
  refine zr_iadd F zd_XReader_seesWord_10 ?_
  refine zr_pcn 11 rfl ?_
  obtain ⟨x4, ex4, h⟩ := zoL_s h
  rw [← ex4]
  refine zr_istore_n F zd_XReader_seesWord_11 (by decide) ?_
  refine zr_iload_n F zd_XReader_seesWord_12 rfl ?_
  refine zr_aload_n F zd_XReader_seesWord_13 rfl ?_
  obtain ⟨le6, hs5, h⟩ := zoS_s h
  refine zr_get F 7 4 zd_XReader_seesWord_14 (zW_o hs5 (by decide)) rfl (by decide) zw_52 rfl (by rfl) ?_
  refine zr_icmp_ge F 45 zd_XReader_seesWord_17 (by decide) (fun hb7 => ?_) (fun hb7 => ?_)
  ·
    rw [if_pos hb7] at h
    refine zr_iconstv (v := 0) F zd_XReader_seesWord_45 (by decide) ?_
    obtain rfl := Option.some.inj h
    exact zr_zret F hr rfl zd_XReader_seesWord_46 (Nat.le_of_ble_eq_true rfl) (Nat.le_of_ble_eq_true rfl) ⟨rfl, rfl, rfl⟩
  ·
    rw [if_neg hb7] at h
    refine zr_aload_n F zd_XReader_seesWord_20 rfl ?_
    refine zr_pcn 21 rfl ?_
    obtain ⟨le9, hs8, h⟩ := zoS_s h
    obtain ⟨a10, ea10, h⟩ := zoB_s h
    refine zr_get F 7 3 zd_XReader_seesWord_21 (zW_o hs8 (by decide)) rfl (by decide) zw_51 rfl (by rfl) ?_
    refine zr_tor ea10 ?_
    refine zr_aload_n F zd_XReader_seesWord_24 rfl ?_
    obtain ⟨le12, hs11, h⟩ := zoS_s h
    refine zr_get F 7 5 zd_XReader_seesWord_25 (zW_o hs11 (by decide)) rfl (by decide) zw_53 rfl (by rfl) ?_
    obtain ⟨i13, ei13, h⟩ := zoL_s h
    rw [← ei13]
    obtain ⟨le15, hs14, h⟩ := zoS_s h
    obtain ⟨hi16, h⟩ := zoI_s h
    refine zr_bald F zd_XReader_seesWord_28 (zW_a1 hs14) hi16 ?_
    refine zr_bipushv (v := 34) F zd_XReader_seesWord_29 (by decide) ?_
    refine zr_icmp_ne F 45 zd_XReader_seesWord_31 (by decide) (fun hb17 => ?_) (fun hb17 => ?_)
    ·
      rw [if_neg hb17] at h
      refine zr_iconstv (v := 0) F zd_XReader_seesWord_45 (by decide) ?_
      obtain rfl := Option.some.inj h
      exact zr_zret F hr rfl zd_XReader_seesWord_46 (Nat.le_of_ble_eq_true rfl) (Nat.le_of_ble_eq_true rfl) ⟨rfl, rfl, rfl⟩
    ·
      rw [if_pos hb17] at h
      refine zr_pcn 34 rfl ?_
      refine zr_aload_n F zd_XReader_seesWord_34 rfl ?_
      obtain ⟨le19, hs18, h⟩ := zoS_s h
      obtain ⟨a20, ea20, h⟩ := zoB_s h
      refine zr_get F 7 3 zd_XReader_seesWord_35 (zW_o hs18 (by decide)) rfl (by decide) zw_51 rfl (by rfl) ?_
      refine zr_tor ea20 ?_
      refine zr_iload_n F zd_XReader_seesWord_38 rfl ?_
      obtain ⟨le22, hs21, h⟩ := zoS_s h
      obtain ⟨hi23, h⟩ := zoI_s h
      refine zr_bald F zd_XReader_seesWord_39 (zW_a1 hs21) hi23 ?_
      refine zr_bipushv (v := 34) F zd_XReader_seesWord_40 (by decide) ?_
      refine zr_icmp_eq F 47 zd_XReader_seesWord_42 (by decide) (fun hb24 => ?_) (fun hb24 => ?_)
      ·
        rw [if_pos hb24] at h
        refine zr_iconstv (v := 0) F zd_XReader_seesWord_47 (by decide) ?_
        refine zr_istore_n F zd_XReader_seesWord_48 (by decide) ?_
        obtain ⟨q38, eq38, h⟩ := zoB_s h
        refine zr_loc (L' := [(0, .ref (b + o)), (1, .ref (D.2 1000 x0_)), (3, .int 0)]) ⟨rfl, rfl, rfl, trivial⟩ ?_
        refine lp_XReader_seesWord_49 F hr _ _ _ _ _ _ eq38 ?_ ?_
        ·
          intro ec
          rw [if_pos ec] at h
          refine zr_iconstv (v := 1) F zd_XReader_seesWord_86 (by decide) ?_
          obtain rfl := Option.some.inj h
          exact zr_zret F hr rfl zd_XReader_seesWord_87 (Nat.le_of_ble_eq_true rfl) (Nat.le_of_ble_eq_true rfl) ⟨rfl, rfl, rfl⟩
        ·
          intro ec
          rw [if_neg (by rw [ec]; decide)] at h
          obtain rfl := Option.some.inj h
          exact ⟨rfl, rfl, rfl⟩
      ·
        rw [if_neg hb24] at h
        refine zr_iconstv (v := 0) F zd_XReader_seesWord_45 (by decide) ?_
        refine zr_pcn 46 rfl ?_
        obtain rfl := Option.some.inj h
        exact zr_zret F hr rfl zd_XReader_seesWord_46 (Nat.le_of_ble_eq_true rfl) (Nat.le_of_ble_eq_true rfl) ⟨rfl, rfl, rfl⟩
def F_XReader_sees (sh : zSh) (mm : zMem) (o : Nat) (x0_ : Int32) : Option (Int32 × zMem) := zoS (sh o) 7 (fun le2 => zoS (sh o) 7 (fun le4 => (if (mm.1 o 4) ≤ (mm.1 o 5) then some (0, mm) else zoS (sh o) 7 (fun le7 => Option.bind (mm.2.2 o 3) (fun a8 => zoS (sh o) 7 (fun le10 => zoL (mm.1 o 5) (fun i11 => zoS (sh a8) 101 (fun le13 => if (i11 : Int32) < 0 ∨ le13 ≤ (i11 : Int32).toNatClampNeg then none else (if (mm.1 a8 (i11 : Int32).toNatClampNeg) = x0_ then some (1, mm) else some (0, mm))))))))))
set_option maxHeartbeats 4000000 in
set_option maxRecDepth 100000 in
theorem k_XReader_sees (l : Launch) (D : va_G) (tA : Nat → ClassId) (b : Nat) (sh : zSh) (n : Nat) {mm : zMem} {o : Nat} {x0_ : Int32} {r : (Int32 × zMem)} (h : F_XReader_sees sh mm o x0_ = some r) : zM l D tA b zy_XReader_sees zb_XReader_sees 2 (some .boolean) 0 0 0 0 [.ref (b + o), .int x0_] (zW tA b sh mm) n (zE (some (.int (r.1))) (zW tA b sh r.2) n) := by
  unfold F_XReader_sees at h
  refine zM_of (own := "OrreryBox$Reader") (plainFor_of_name (by decide)) rfl (Nat.le_of_ble_eq_true rfl) (fun p e s m below meth c F hr hin hH => ?_)
  refine zr_aload_n F zd_XReader_sees_0 rfl ?_
  obtain ⟨le2, hs1, h⟩ := zoS_s h
  refine zr_get F 7 5 zd_XReader_sees_1 (zW_o hs1 (by decide)) rfl (by decide) zw_53 rfl (by rfl) ?_
  refine zr_aload_n F zd_XReader_sees_4 rfl ?_
  obtain ⟨le4, hs3, h⟩ := zoS_s h
  refine zr_get F 7 4 zd_XReader_sees_5 (zW_o hs3 (by decide)) rfl (by decide) zw_52 rfl (by rfl) ?_
  refine zr_icmp_ge F 28 zd_XReader_sees_8 (by decide) (fun hb5 => ?_) (fun hb5 => ?_)
  ·
    rw [if_pos hb5] at h
    refine zr_iconstv (v := 0) F zd_XReader_sees_28 (by decide) ?_
    obtain rfl := Option.some.inj h
    exact zr_zret F hr rfl zd_XReader_sees_29 (Nat.le_of_ble_eq_true rfl) (Nat.le_of_ble_eq_true rfl) ⟨rfl, rfl, rfl⟩
  ·
    rw [if_neg hb5] at h
    refine zr_pcn 11 rfl ?_
    refine zr_aload_n F zd_XReader_sees_11 rfl ?_
    obtain ⟨le7, hs6, h⟩ := zoS_s h
    obtain ⟨a8, ea8, h⟩ := zoB_s h
    refine zr_get F 7 3 zd_XReader_sees_12 (zW_o hs6 (by decide)) rfl (by decide) zw_51 rfl (by rfl) ?_
    refine zr_tor ea8 ?_
    refine zr_aload_n F zd_XReader_sees_15 rfl ?_
    obtain ⟨le10, hs9, h⟩ := zoS_s h
    refine zr_get F 7 5 zd_XReader_sees_16 (zW_o hs9 (by decide)) rfl (by decide) zw_53 rfl (by rfl) ?_
    obtain ⟨i11, ei11, h⟩ := zoL_s h
    rw [← ei11]
    obtain ⟨le13, hs12, h⟩ := zoS_s h
    obtain ⟨hi14, h⟩ := zoI_s h
    refine zr_bald F zd_XReader_sees_19 (zW_a1 hs12) hi14 ?_
    refine zr_iload_n F zd_XReader_sees_20 rfl ?_
    refine zr_icmp_ne F 28 zd_XReader_sees_21 (by decide) (fun hb15 => ?_) (fun hb15 => ?_)
    ·
      rw [if_neg hb15] at h
      refine zr_iconstv (v := 0) F zd_XReader_sees_28 (by decide) ?_
      refine zr_pcn 29 rfl ?_
      obtain rfl := Option.some.inj h
      exact zr_zret F hr rfl zd_XReader_sees_29 (Nat.le_of_ble_eq_true rfl) (Nat.le_of_ble_eq_true rfl) ⟨rfl, rfl, rfl⟩
    ·
      rw [if_pos hb15] at h
      refine zr_iconstv (v := 1) F zd_XReader_sees_24 (by decide) ?_
      refine zr_goto F 29 zd_XReader_sees_25 (by decide) ?_
      obtain rfl := Option.some.inj h
      exact zr_zret F hr rfl zd_XReader_sees_29 (Nat.le_of_ble_eq_true rfl) (Nat.le_of_ble_eq_true rfl) ⟨rfl, rfl, rfl⟩
theorem zf_I_7_5 (b : Nat) (m : zMem) (k : Nat) (v : Int32) : (zfl b 7 m k).set 5 (.int v) = zfl b 7 (mI m k 5 v) k := by simp [zfl, mI, upd, vp_updL]
def L_XReader_step_10 (sh : zSh) (fuel : Nat) (v0 : Nat) (mm : zMem) : Option (Nat × zMem) := match fuel with
  | 0 => none
  | fu + 1 => zoS (sh v0) 7 (fun le8 => zoS (sh v0) 7 (fun le10 => (if (mm.1 v0 4) ≤ (mm.1 v0 5) then some (v0, mm) else zoS (sh v0) 7 (fun le13 => Option.bind (mm.2.2 v0 3) (fun a14 => zoS (sh v0) 7 (fun le16 => zoL (mm.1 v0 5) (fun i17 => zoS (sh a14) 101 (fun le19 => if (i17 : Int32) < 0 ∨ le19 ≤ (i17 : Int32).toNatClampNeg then none else (if (mm.1 a14 (i17 : Int32).toNatClampNeg) = 32 then zoS (sh v0) 7 (fun le23 => zoL ((mm.1 v0 5) + 1) (fun x24 => zoS (sh v0) 7 (fun le26 => zoL (mI mm v0 5 x24) (fun mm27 => L_XReader_step_10 sh fu v0 mm27)))) else zoS (sh v0) 7 (fun le29 => Option.bind (mm.2.2 v0 3) (fun a30 => zoS (sh v0) 7 (fun le32 => zoL (mm.1 v0 5) (fun i33 => zoS (sh a30) 101 (fun le35 => if (i33 : Int32) < 0 ∨ le35 ≤ (i33 : Int32).toNatClampNeg then none else (if (mm.1 a30 (i33 : Int32).toNatClampNeg) = 10 then zoS (sh v0) 7 (fun le39 => zoL ((mm.1 v0 5) + 1) (fun x40 => zoS (sh v0) 7 (fun le42 => zoL (mI mm v0 5 x40) (fun mm43 => L_XReader_step_10 sh fu v0 mm43)))) else zoS (sh v0) 7 (fun le45 => Option.bind (mm.2.2 v0 3) (fun a46 => zoS (sh v0) 7 (fun le48 => zoL (mm.1 v0 5) (fun i49 => zoS (sh a46) 101 (fun le51 => if (i49 : Int32) < 0 ∨ le51 ≤ (i49 : Int32).toNatClampNeg then none else (if (mm.1 a46 (i49 : Int32).toNatClampNeg) = 13 then zoS (sh v0) 7 (fun le55 => zoL ((mm.1 v0 5) + 1) (fun x56 => zoS (sh v0) 7 (fun le58 => zoL (mI mm v0 5 x56) (fun mm59 => L_XReader_step_10 sh fu v0 mm59)))) else zoS (sh v0) 7 (fun le61 => Option.bind (mm.2.2 v0 3) (fun a62 => zoS (sh v0) 7 (fun le64 => zoL (mm.1 v0 5) (fun i65 => zoS (sh a62) 101 (fun le67 => if (i65 : Int32) < 0 ∨ le67 ≤ (i65 : Int32).toNatClampNeg then none else (if (mm.1 a62 (i65 : Int32).toNatClampNeg) = 9 then zoS (sh v0) 7 (fun le71 => zoL ((mm.1 v0 5) + 1) (fun x72 => zoS (sh v0) 7 (fun le74 => zoL (mI mm v0 5 x72) (fun mm75 => L_XReader_step_10 sh fu v0 mm75)))) else some (v0, mm))))))))))))))))))))))))))))
set_option maxHeartbeats 4000000 in
set_option maxRecDepth 100000 in
theorem lp_XReader_step_10 {p : Program} {l : Launch} {e : Env} {s : State} {m : MethodId} {args : Array Value} {below : List Frame} {meth : Method} {c : Code} {D : va_G} {tA : Nat → ClassId} {b n : Nat} {post : Option Value → zV → Nat → Prop} {sh : zSh} (F : zF p s m args meth c zb_XReader_step 2 "OrreryBox$Reader" D tA b) : ∀ (fuel : Nat) (v0 : Nat) (mm : zMem) (r : Nat × zMem), L_XReader_step_10 sh fuel v0 mm = some r → (Z p l e { frames := 0, cells := 0, slots := 0, locals := 0 } s m args below meth c D b 2 (MQ below (zQ D b post) args s 0 0 (fun q => b ≤ q)) (zW tA b sh r.2) n 0 0 90 [(0, .ref (b + (r.1)))] []) → Z p l e { frames := 0, cells := 0, slots := 0, locals := 0 } s m args below meth c D b 2 (MQ below (zQ D b post) args s 0 0 (fun q => b ≤ q)) (zW tA b sh mm) n 0 0 10 [(0, .ref (b + v0))] [] := by
  intro fuel
  induction fuel with
  | zero =>
    intro v0 mm r h
    cases h
  | succ fu ih =>
    intro v0 mm r h hx0
    rw [L_XReader_step_10] at h
    refine zr_aload_n F zd_XReader_step_10 rfl ?_
    refine zr_pcn 11 rfl ?_
    obtain ⟨le8, hs7, h⟩ := zoS_s h
    refine zr_get F 7 5 zd_XReader_step_11 (zW_o hs7 (by decide)) rfl (by decide) zw_53 rfl (by rfl) ?_
    refine zr_aload_n F zd_XReader_step_14 rfl ?_
    obtain ⟨le10, hs9, h⟩ := zoS_s h
    refine zr_get F 7 4 zd_XReader_step_15 (zW_o hs9 (by decide)) rfl (by decide) zw_52 rfl (by rfl) ?_
    refine zr_icmp_ge F 90 zd_XReader_step_18 (by decide) (fun hb11 => ?_) (fun hb11 => ?_)
    ·
      rw [if_pos hb11] at h
      obtain rfl := Option.some.inj h
      refine zr_loc (L' := [(0, .ref (b + v0))]) ⟨rfl, trivial⟩ ?_
      exact hx0 
    ·
      rw [if_neg hb11] at h
      refine zr_aload_n F zd_XReader_step_21 rfl ?_
      obtain ⟨le13, hs12, h⟩ := zoS_s h
      obtain ⟨a14, ea14, h⟩ := zoB_s h
      refine zr_get F 7 3 zd_XReader_step_22 (zW_o hs12 (by decide)) rfl (by decide) zw_51 rfl (by rfl) ?_
      refine zr_tor ea14 ?_
      refine zr_aload_n F zd_XReader_step_25 rfl ?_
      obtain ⟨le16, hs15, h⟩ := zoS_s h
      refine zr_get F 7 5 zd_XReader_step_26 (zW_o hs15 (by decide)) rfl (by decide) zw_53 rfl (by rfl) ?_
      refine zr_pcn 29 rfl ?_
      obtain ⟨i17, ei17, h⟩ := zoL_s h
      rw [← ei17]
      obtain ⟨le19, hs18, h⟩ := zoS_s h
      obtain ⟨hi20, h⟩ := zoI_s h
      refine zr_bald F zd_XReader_step_29 (zW_a1 hs18) hi20 ?_
      refine zr_bipushv (v := 32) F zd_XReader_step_30 (by decide) ?_
      refine zr_icmp_eq F 77 zd_XReader_step_32 (by decide) (fun hb21 => ?_) (fun hb21 => ?_)
      ·
        rw [if_pos hb21] at h
        refine zr_aload_n F zd_XReader_step_77 rfl ?_
        refine zr_dup F zd_XReader_step_78 rfl ?_
        obtain ⟨le23, hs22, h⟩ := zoS_s h
        refine zr_get F 7 5 zd_XReader_step_79 (zW_o hs22 (by decide)) rfl (by decide) zw_53 rfl (by rfl) ?_
        refine zr_iconstv (v := 1) F zd_XReader_step_82 (by decide) ?_
        refine zr_iadd F zd_XReader_step_83 ?_
        refine zr_pcn 84 rfl ?_
        obtain ⟨x24, ex24, h⟩ := zoL_s h
        rw [← ex24]
        obtain ⟨le26, hs25, h⟩ := zoS_s h
        refine zr_put F 7 5 zd_XReader_step_84 (zW_o hs25 (by decide)) rfl (by decide) zw_53 rfl rfl rfl rfl (by exact (Nat.le_of_ble_eq_true rfl)) ?_
        obtain ⟨mm27, emm27, h⟩ := zoL_s h
        refine zr_norm (zW tA b sh mm27) _ (by rw [emm27]; exact zW_pI (v := x24) hs25 (by decide) (zf_I_7_5 b _ _ _)) rfl ?_
        refine zr_goto F 10 zd_XReader_step_87 (by decide) ?_
        refine zr_loc (L' := [(0, .ref (b + v0))]) ⟨rfl, trivial⟩ ?_
        exact ih _ _ _ h hx0
      ·
        rw [if_neg hb21] at h
        refine zr_aload_n F zd_XReader_step_35 rfl ?_
        obtain ⟨le29, hs28, h⟩ := zoS_s h
        obtain ⟨a30, ea30, h⟩ := zoB_s h
        refine zr_get F 7 3 zd_XReader_step_36 (zW_o hs28 (by decide)) rfl (by decide) zw_51 rfl (by rfl) ?_
        refine zr_tor ea30 ?_
        refine zr_aload_n F zd_XReader_step_39 rfl ?_
        obtain ⟨le32, hs31, h⟩ := zoS_s h
        refine zr_get F 7 5 zd_XReader_step_40 (zW_o hs31 (by decide)) rfl (by decide) zw_53 rfl (by rfl) ?_
        obtain ⟨i33, ei33, h⟩ := zoL_s h
        rw [← ei33]
        obtain ⟨le35, hs34, h⟩ := zoS_s h
        obtain ⟨hi36, h⟩ := zoI_s h
        refine zr_bald F zd_XReader_step_43 (zW_a1 hs34) hi36 ?_
        refine zr_bipushv (v := 10) F zd_XReader_step_44 (by decide) ?_
        refine zr_pcn 46 rfl ?_
        refine zr_icmp_eq F 77 zd_XReader_step_46 (by decide) (fun hb37 => ?_) (fun hb37 => ?_)
        ·
          rw [if_pos hb37] at h
          refine zr_aload_n F zd_XReader_step_77 rfl ?_
          refine zr_dup F zd_XReader_step_78 rfl ?_
          obtain ⟨le39, hs38, h⟩ := zoS_s h
          refine zr_get F 7 5 zd_XReader_step_79 (zW_o hs38 (by decide)) rfl (by decide) zw_53 rfl (by rfl) ?_
          refine zr_iconstv (v := 1) F zd_XReader_step_82 (by decide) ?_
          refine zr_iadd F zd_XReader_step_83 ?_
          obtain ⟨x40, ex40, h⟩ := zoL_s h
          rw [← ex40]
          obtain ⟨le42, hs41, h⟩ := zoS_s h
          refine zr_put F 7 5 zd_XReader_step_84 (zW_o hs41 (by decide)) rfl (by decide) zw_53 rfl rfl rfl rfl (by exact (Nat.le_of_ble_eq_true rfl)) ?_
          obtain ⟨mm43, emm43, h⟩ := zoL_s h
          refine zr_norm (zW tA b sh mm43) _ (by rw [emm43]; exact zW_pI (v := x40) hs41 (by decide) (zf_I_7_5 b _ _ _)) rfl ?_
          refine zr_goto F 10 zd_XReader_step_87 (by decide) ?_
          refine zr_loc (L' := [(0, .ref (b + v0))]) ⟨rfl, trivial⟩ ?_
          exact ih _ _ _ h hx0
        ·
          rw [if_neg hb37] at h
          refine zr_pcn 49 rfl ?_
          refine zr_aload_n F zd_XReader_step_49 rfl ?_
          obtain ⟨le45, hs44, h⟩ := zoS_s h
          obtain ⟨a46, ea46, h⟩ := zoB_s h
          refine zr_get F 7 3 zd_XReader_step_50 (zW_o hs44 (by decide)) rfl (by decide) zw_51 rfl (by rfl) ?_
          refine zr_tor ea46 ?_
          refine zr_aload_n F zd_XReader_step_53 rfl ?_
          obtain ⟨le48, hs47, h⟩ := zoS_s h
          refine zr_get F 7 5 zd_XReader_step_54 (zW_o hs47 (by decide)) rfl (by decide) zw_53 rfl (by rfl) ?_
          obtain ⟨i49, ei49, h⟩ := zoL_s h
          rw [← ei49]
          obtain ⟨le51, hs50, h⟩ := zoS_s h
          obtain ⟨hi52, h⟩ := zoI_s h
          refine zr_bald F zd_XReader_step_57 (zW_a1 hs50) hi52 ?_
          refine zr_bipushv (v := 13) F zd_XReader_step_58 (by decide) ?_
          refine zr_icmp_eq F 77 zd_XReader_step_60 (by decide) (fun hb53 => ?_) (fun hb53 => ?_)
          ·
            rw [if_pos hb53] at h
            refine zr_aload_n F zd_XReader_step_77 rfl ?_
            refine zr_pcn 78 rfl ?_
            refine zr_dup F zd_XReader_step_78 rfl ?_
            obtain ⟨le55, hs54, h⟩ := zoS_s h
            refine zr_get F 7 5 zd_XReader_step_79 (zW_o hs54 (by decide)) rfl (by decide) zw_53 rfl (by rfl) ?_
            refine zr_iconstv (v := 1) F zd_XReader_step_82 (by decide) ?_
            refine zr_iadd F zd_XReader_step_83 ?_
            obtain ⟨x56, ex56, h⟩ := zoL_s h
            rw [← ex56]
            obtain ⟨le58, hs57, h⟩ := zoS_s h
            refine zr_put F 7 5 zd_XReader_step_84 (zW_o hs57 (by decide)) rfl (by decide) zw_53 rfl rfl rfl rfl (by exact (Nat.le_of_ble_eq_true rfl)) ?_
            obtain ⟨mm59, emm59, h⟩ := zoL_s h
            refine zr_norm (zW tA b sh mm59) _ (by rw [emm59]; exact zW_pI (v := x56) hs57 (by decide) (zf_I_7_5 b _ _ _)) rfl ?_
            refine zr_goto F 10 zd_XReader_step_87 (by decide) ?_
            refine zr_loc (L' := [(0, .ref (b + v0))]) ⟨rfl, trivial⟩ ?_
            exact ih _ _ _ h hx0
          ·
            rw [if_neg hb53] at h
            refine zr_aload_n F zd_XReader_step_63 rfl ?_
            obtain ⟨le61, hs60, h⟩ := zoS_s h
            obtain ⟨a62, ea62, h⟩ := zoB_s h
            refine zr_get F 7 3 zd_XReader_step_64 (zW_o hs60 (by decide)) rfl (by decide) zw_51 rfl (by rfl) ?_
            refine zr_tor ea62 ?_
            refine zr_pcn 67 rfl ?_
            refine zr_aload_n F zd_XReader_step_67 rfl ?_
            obtain ⟨le64, hs63, h⟩ := zoS_s h
            refine zr_get F 7 5 zd_XReader_step_68 (zW_o hs63 (by decide)) rfl (by decide) zw_53 rfl (by rfl) ?_
            obtain ⟨i65, ei65, h⟩ := zoL_s h
            rw [← ei65]
            obtain ⟨le67, hs66, h⟩ := zoS_s h
            obtain ⟨hi68, h⟩ := zoI_s h
            refine zr_bald F zd_XReader_step_71 (zW_a1 hs66) hi68 ?_
            refine zr_bipushv (v := 9) F zd_XReader_step_72 (by decide) ?_
            refine zr_icmp_ne F 90 zd_XReader_step_74 (by decide) (fun hb69 => ?_) (fun hb69 => ?_)
            ·
              rw [if_neg hb69] at h
              obtain rfl := Option.some.inj h
              refine zr_loc (L' := [(0, .ref (b + v0))]) ⟨rfl, trivial⟩ ?_
              exact hx0 
            ·
              rw [if_pos hb69] at h
              refine zr_aload_n F zd_XReader_step_77 rfl ?_
              refine zr_dup F zd_XReader_step_78 rfl ?_
              obtain ⟨le71, hs70, h⟩ := zoS_s h
              refine zr_get F 7 5 zd_XReader_step_79 (zW_o hs70 (by decide)) rfl (by decide) zw_53 rfl (by rfl) ?_
              refine zr_pcn 82 rfl ?_
              refine zr_iconstv (v := 1) F zd_XReader_step_82 (by decide) ?_
              refine zr_iadd F zd_XReader_step_83 ?_
              obtain ⟨x72, ex72, h⟩ := zoL_s h
              rw [← ex72]
              obtain ⟨le74, hs73, h⟩ := zoS_s h
              refine zr_put F 7 5 zd_XReader_step_84 (zW_o hs73 (by decide)) rfl (by decide) zw_53 rfl rfl rfl rfl (by exact (Nat.le_of_ble_eq_true rfl)) ?_
              obtain ⟨mm75, emm75, h⟩ := zoL_s h
              refine zr_norm (zW tA b sh mm75) _ (by rw [emm75]; exact zW_pI (v := x72) hs73 (by decide) (zf_I_7_5 b _ _ _)) rfl ?_
              refine zr_goto F 10 zd_XReader_step_87 (by decide) ?_
              refine zr_loc (L' := [(0, .ref (b + v0))]) ⟨rfl, trivial⟩ ?_
              exact ih _ _ _ h hx0
def F_XReader_step (sh : zSh) (mm : zMem) (o : Nat) (x0_ : Int32) : Option zMem := zoS (sh o) 7 (fun le2 => zoL ((mm.1 o 5) + x0_) (fun x3 => zoS (sh o) 7 (fun le5 => zoL (mI mm o 5 x3) (fun mm6 => Option.bind (L_XReader_step_10 sh zfuel o mm6) (fun q76 => some (q76.2))))))
set_option maxHeartbeats 4000000 in
set_option maxRecDepth 100000 in
theorem k_XReader_step (l : Launch) (D : va_G) (tA : Nat → ClassId) (b : Nat) (sh : zSh) (n : Nat) {mm : zMem} {o : Nat} {x0_ : Int32} {r : zMem} (h : F_XReader_step sh mm o x0_ = some r) : zM l D tA b zy_XReader_step zb_XReader_step 2 none 0 0 0 0 [.ref (b + o), .int x0_] (zW tA b sh mm) n (zE none (zW tA b sh r) n) := by
  unfold F_XReader_step at h
  refine zM_of (own := "OrreryBox$Reader") (plainFor_of_name (by decide)) rfl (Nat.le_of_ble_eq_true rfl) (fun p e s m below meth c F hr hin hH => ?_)
  refine zr_aload_n F zd_XReader_step_0 rfl ?_
  refine zr_dup F zd_XReader_step_1 rfl ?_
  obtain ⟨le2, hs1, h⟩ := zoS_s h
  refine zr_get F 7 5 zd_XReader_step_2 (zW_o hs1 (by decide)) rfl (by decide) zw_53 rfl (by rfl) ?_
  refine zr_iload_n F zd_XReader_step_5 rfl ?_
  refine zr_iadd F zd_XReader_step_6 ?_
  obtain ⟨x3, ex3, h⟩ := zoL_s h
  rw [← ex3]
  obtain ⟨le5, hs4, h⟩ := zoS_s h
  refine zr_put F 7 5 zd_XReader_step_7 (zW_o hs4 (by decide)) rfl (by decide) zw_53 rfl rfl rfl rfl (by exact (Nat.le_of_ble_eq_true rfl)) ?_
  obtain ⟨mm6, emm6, h⟩ := zoL_s h
  refine zr_norm (zW tA b sh mm6) _ (by rw [emm6]; exact zW_pI (v := x3) hs4 (by decide) (zf_I_7_5 b _ _ _)) rfl ?_
  obtain ⟨q76, eq76, h⟩ := zoB_s h
  refine zr_loc (L' := [(0, .ref (b + o))]) ⟨rfl, trivial⟩ ?_
  refine lp_XReader_step_10 F _ _ _ _ eq76 ?_
  ·
    obtain rfl := Option.some.inj h
    exact zr_vret F hr zd_XReader_step_90 (Nat.le_of_ble_eq_true rfl) (Nat.le_of_ble_eq_true rfl) ⟨rfl, rfl, rfl⟩
theorem zf_I_7_0 (b : Nat) (m : zMem) (k : Nat) (v : Int32) : (zfl b 7 m k).set 0 (.int v) = zfl b 7 (mI m k 0 v) k := by simp [zfl, mI, upd, vp_updL]
theorem zf_I_7_1 (b : Nat) (m : zMem) (k : Nat) (v : Int32) : (zfl b 7 m k).set 1 (.int v) = zfl b 7 (mI m k 1 v) k := by simp [zfl, mI, upd, vp_updL]
def T_XReader_refuse (sh : zSh) (mm : zMem) (o : Nat) (x0_ : Int32) (x1_ : Int32) : Option zMem := zoS (sh o) 7 (fun le2 => zoL (mI mm o 0 x0_) (fun mm3 => zoS (sh o) 7 (fun le5 => zoL (mI mm3 o 1 x1_) (fun mm6 => some mm6))))
set_option maxHeartbeats 4000000 in
set_option maxRecDepth 100000 in
theorem kT_XReader_refuse (l : Launch) (D : va_G) (tA : Nat → ClassId) (b : Nat) (sh : zSh) (n : Nat) (hl : l.stackTraces = false) {mm : zMem} {o : Nat} {x0_ : Int32} {x1_ : Int32} {r : zMem} (h : T_XReader_refuse sh mm o x0_ x1_ = some r) : zMT l D tA b zy_XReader_refuse zb_XReader_refuse 3 none 6 90 1 6 [.ref (b + o), .int x0_, .int x1_] (zW tA b sh mm) n "java/lang/IllegalArgumentException" (zW tA b sh r) (n + 1) := by
  unfold T_XReader_refuse at h
  refine zMT_of (own := "OrreryBox$Reader") (plainFor_of_name (by decide)) rfl (Nat.le_of_ble_eq_true rfl) (fun p e s m below meth c F hno hH => ?_)
  refine zr_aload_n F zd_XReader_refuse_0 rfl ?_
  refine zr_iload_n F zd_XReader_refuse_1 rfl ?_
  obtain ⟨le2, hs1, h⟩ := zoS_s h
  refine zr_put F 7 0 zd_XReader_refuse_2 (zW_o hs1 (by decide)) rfl (by decide) zw_46 rfl rfl rfl rfl (by exact (Nat.le_of_ble_eq_true rfl)) ?_
  obtain ⟨mm3, emm3, h⟩ := zoL_s h
  refine zr_norm (zW tA b sh mm3) _ (by rw [emm3]; exact zW_pI (v := x0_) hs1 (by decide) (zf_I_7_0 b _ _ _)) rfl ?_
  refine zr_aload_n F zd_XReader_refuse_5 rfl ?_
  refine zr_iload_n F zd_XReader_refuse_6 rfl ?_
  obtain ⟨le5, hs4, h⟩ := zoS_s h
  refine zr_put F 7 1 zd_XReader_refuse_7 (zW_o hs4 (by decide)) rfl (by decide) zw_48 rfl rfl rfl rfl (by exact (Nat.le_of_ble_eq_true rfl)) ?_
  obtain ⟨mm6, emm6, h⟩ := zoL_s h
  refine zr_norm (zW tA b sh mm6) _ (by rw [emm6]; exact zW_pI (v := x1_) hs4 (by decide) (zf_I_7_1 b _ _ _)) rfl ?_
  obtain rfl := Option.some.inj h
  exact zr_throwNew (names := ["java/lang/RuntimeException", "java/lang/Exception"]) F hl hno zd_XReader_refuse_10 zd_XReader_refuse_13 zd_XReader_refuse_14 zd_XReader_refuse_17 (by decide) (by decide) (fun U hG hts => zat_IAE U hG hts) zw_1098 zw_1099 zw_21 (Nat.le_of_ble_eq_true rfl) (Nat.le_of_ble_eq_true rfl) (Nat.le_of_ble_eq_true rfl) (Nat.le_of_ble_eq_true rfl) (Nat.le_of_ble_eq_true rfl) (Nat.le_of_ble_eq_true rfl)
def L_XScene_clear_2 (sh : zSh) (fuel : Nat) (v0 : Nat) (v1 : Int32) (mm : zMem) : Option (Nat × Int32 × zMem) := match fuel with
  | 0 => none
  | fu + 1 => zoS (sh v0) 8 (fun le2 => Option.bind (mm.2.2 v0 0) (fun a3 => zoA (sh a3) (fun t6 le5 => (if (Int32.ofNat le5) ≤ v1 then some (v0, v1, mm) else zoS (sh v0) 8 (fun le9 => Option.bind (mm.2.2 v0 0) (fun a10 => zoS (sh a10) 100 (fun le12 => if (v1 : Int32) < 0 ∨ le12 ≤ (v1 : Int32).toNatClampNeg then none else zoL (mI mm a10 (v1 : Int32).toNatClampNeg 0) (fun mm14 => L_XScene_clear_2 sh fu v0 (v1 + 1) mm14))))))))
set_option maxHeartbeats 4000000 in
set_option maxRecDepth 100000 in
theorem lp_XScene_clear_2 {p : Program} {l : Launch} {e : Env} {s : State} {m : MethodId} {args : Array Value} {below : List Frame} {meth : Method} {c : Code} {D : va_G} {tA : Nat → ClassId} {b n : Nat} {post : Option Value → zV → Nat → Prop} {sh : zSh} (F : zF p s m args meth c zb_XScene_clear 2 "OrreryBox$Scene" D tA b) : ∀ (fuel : Nat) (v0 : Nat) (v1 : Int32) (mm : zMem) (r : Nat × Int32 × zMem), L_XScene_clear_2 sh fuel v0 v1 mm = some r → (Z p l e { frames := 0, cells := 0, slots := 0, locals := 0 } s m args below meth c D b 2 (MQ below (zQ D b post) args s 0 0 (fun q => b ≤ q)) (zW tA b sh r.2.2) n 0 0 24 [(0, .ref (b + (r.1))), (1, .int (r.2.1))] []) → Z p l e { frames := 0, cells := 0, slots := 0, locals := 0 } s m args below meth c D b 2 (MQ below (zQ D b post) args s 0 0 (fun q => b ≤ q)) (zW tA b sh mm) n 0 0 2 [(0, .ref (b + v0)), (1, .int v1)] [] := by
  intro fuel
  induction fuel with
  | zero =>
    intro v0 v1 mm r h
    cases h
  | succ fu ih =>
    intro v0 v1 mm r h hx0
    rw [L_XScene_clear_2] at h
    refine zr_iload_n F zd_XScene_clear_2 rfl ?_
    refine zr_aload_n F zd_XScene_clear_3 rfl ?_
    obtain ⟨le2, hs1, h⟩ := zoS_s h
    obtain ⟨a3, ea3, h⟩ := zoB_s h
    refine zr_get F 8 0 zd_XScene_clear_4 (zW_o hs1 (by decide)) rfl (by decide) zw_281 rfl (by rfl) ?_
    refine zr_tor ea3 ?_
    obtain ⟨t6, le5, hs4, h⟩ := zoA_s h
    refine zr_lenW F zd_XScene_clear_7 hs4 ?_
    refine zr_icmp_ge F 24 zd_XScene_clear_8 (by decide) (fun hb7 => ?_) (fun hb7 => ?_)
    ·
      rw [if_pos hb7] at h
      obtain rfl := Option.some.inj h
      refine zr_loc (L' := [(0, .ref (b + v0)), (1, .int v1)]) ⟨rfl, rfl, trivial⟩ ?_
      exact hx0 
    ·
      rw [if_neg hb7] at h
      refine zr_pcn 11 rfl ?_
      refine zr_aload_n F zd_XScene_clear_11 rfl ?_
      obtain ⟨le9, hs8, h⟩ := zoS_s h
      obtain ⟨a10, ea10, h⟩ := zoB_s h
      refine zr_get F 8 0 zd_XScene_clear_12 (zW_o hs8 (by decide)) rfl (by decide) zw_281 rfl (by rfl) ?_
      refine zr_tor ea10 ?_
      refine zr_iload_n F zd_XScene_clear_15 rfl ?_
      refine zr_iconstv (v := 0) F zd_XScene_clear_16 (by decide) ?_
      obtain ⟨le12, hs11, h⟩ := zoS_s h
      obtain ⟨hi13, h⟩ := zoI_s h
      refine zr_iast F zd_XScene_clear_17 (zW_a0 hs11) hi13 ?_
      obtain ⟨mm14, emm14, h⟩ := zoL_s h
      refine zr_norm (zW tA b sh mm14) _ (by rw [emm14]; exact zW_s0 hs11) rfl ?_
      refine zr_iinc (v := (v1 + 1)) F zd_XScene_clear_18 rfl rfl (by decide) ?_
      refine zr_goto F 2 zd_XScene_clear_21 (by decide) ?_
      refine zr_loc (L' := [(0, .ref (b + v0)), (1, .int (v1 + 1))]) ⟨rfl, rfl, trivial⟩ ?_
      exact ih _ _ _ _ h hx0
def L_XScene_clear_26 (sh : zSh) (fuel : Nat) (v0 : Nat) (v1 : Int32) (mm : zMem) : Option (Nat × Int32 × zMem) := match fuel with
  | 0 => none
  | fu + 1 => (if 6 ≤ v1 then some (v0, v1, mm) else zoS (sh v0) 8 (fun le18 => Option.bind (mm.2.2 v0 6) (fun a19 => zoS (sh a19) 100 (fun le21 => if (v1 : Int32) < 0 ∨ le21 ≤ (v1 : Int32).toNatClampNeg then none else zoL (mI mm a19 (v1 : Int32).toNatClampNeg 0) (fun mm23 => L_XScene_clear_26 sh fu v0 (v1 + 1) mm23)))))
set_option maxHeartbeats 4000000 in
set_option maxRecDepth 100000 in
theorem lp_XScene_clear_26 {p : Program} {l : Launch} {e : Env} {s : State} {m : MethodId} {args : Array Value} {below : List Frame} {meth : Method} {c : Code} {D : va_G} {tA : Nat → ClassId} {b n : Nat} {post : Option Value → zV → Nat → Prop} {sh : zSh} (F : zF p s m args meth c zb_XScene_clear 2 "OrreryBox$Scene" D tA b) : ∀ (fuel : Nat) (v0 : Nat) (v1 : Int32) (mm : zMem) (r : Nat × Int32 × zMem), L_XScene_clear_26 sh fuel v0 v1 mm = some r → (Z p l e { frames := 0, cells := 0, slots := 0, locals := 0 } s m args below meth c D b 2 (MQ below (zQ D b post) args s 0 0 (fun q => b ≤ q)) (zW tA b sh r.2.2) n 0 0 45 [(0, .ref (b + (r.1))), (1, .int (r.2.1))] []) → Z p l e { frames := 0, cells := 0, slots := 0, locals := 0 } s m args below meth c D b 2 (MQ below (zQ D b post) args s 0 0 (fun q => b ≤ q)) (zW tA b sh mm) n 0 0 26 [(0, .ref (b + v0)), (1, .int v1)] [] := by
  intro fuel
  induction fuel with
  | zero =>
    intro v0 v1 mm r h
    cases h
  | succ fu ih =>
    intro v0 v1 mm r h hx0
    rw [L_XScene_clear_26] at h
    refine zr_iload_n F zd_XScene_clear_26 rfl ?_
    refine zr_bipushv (v := 6) F zd_XScene_clear_27 (by decide) ?_
    refine zr_icmp_ge F 45 zd_XScene_clear_29 (by decide) (fun hb16 => ?_) (fun hb16 => ?_)
    ·
      rw [if_pos hb16] at h
      obtain rfl := Option.some.inj h
      refine zr_loc (L' := [(0, .ref (b + v0)), (1, .int v1)]) ⟨rfl, rfl, trivial⟩ ?_
      exact hx0 
    ·
      rw [if_neg hb16] at h
      refine zr_aload_n F zd_XScene_clear_32 rfl ?_
      obtain ⟨le18, hs17, h⟩ := zoS_s h
      obtain ⟨a19, ea19, h⟩ := zoB_s h
      refine zr_get F 8 6 zd_XScene_clear_33 (zW_o hs17 (by decide)) rfl (by decide) zw_301 rfl (by rfl) ?_
      refine zr_tor ea19 ?_
      refine zr_iload_n F zd_XScene_clear_36 rfl ?_
      refine zr_iconstv (v := 0) F zd_XScene_clear_37 (by decide) ?_
      refine zr_pcn 38 rfl ?_
      obtain ⟨le21, hs20, h⟩ := zoS_s h
      obtain ⟨hi22, h⟩ := zoI_s h
      refine zr_iast F zd_XScene_clear_38 (zW_a0 hs20) hi22 ?_
      obtain ⟨mm23, emm23, h⟩ := zoL_s h
      refine zr_norm (zW tA b sh mm23) _ (by rw [emm23]; exact zW_s0 hs20) rfl ?_
      refine zr_iinc (v := (v1 + 1)) F zd_XScene_clear_39 rfl rfl (by decide) ?_
      refine zr_goto F 26 zd_XScene_clear_42 (by decide) ?_
      refine zr_loc (L' := [(0, .ref (b + v0)), (1, .int (v1 + 1))]) ⟨rfl, rfl, trivial⟩ ?_
      exact ih _ _ _ _ h hx0
theorem zf_I_8_8 (b : Nat) (m : zMem) (k : Nat) (v : Int32) : (zfl b 8 m k).set 8 (.int v) = zfl b 8 (mI m k 8 v) k := by simp [zfl, mI, upd, vp_updL]
theorem zf_I_8_9 (b : Nat) (m : zMem) (k : Nat) (v : Int32) : (zfl b 8 m k).set 9 (.int v) = zfl b 8 (mI m k 9 v) k := by simp [zfl, mI, upd, vp_updL]
def F_XScene_clear (sh : zSh) (mm : zMem) (o : Nat) : Option zMem := Option.bind (L_XScene_clear_2 sh zfuel o 0 mm) (fun q15 => Option.bind (L_XScene_clear_26 sh zfuel (q15.1) 0 (q15.2.2)) (fun q24 => zoS (sh (q24.1)) 8 (fun le26 => Option.bind ((q24.2.2).2.2 (q24.1) 6) (fun a27 => zoS (sh a27) 100 (fun le29 => if (6 : Int32) < 0 ∨ le29 ≤ (6 : Int32).toNatClampNeg then none else zoL (mI (q24.2.2) a27 (6 : Int32).toNatClampNeg 32) (fun mm31 => zoS (sh (q24.1)) 8 (fun le33 => Option.bind (mm31.2.2 (q24.1) 7) (fun a34 => zoS (sh a34) 100 (fun le36 => if (0 : Int32) < 0 ∨ le36 ≤ (0 : Int32).toNatClampNeg then none else zoL (mI mm31 a34 (0 : Int32).toNatClampNeg 0) (fun mm38 => zoS (sh (q24.1)) 8 (fun le40 => Option.bind (mm38.2.2 (q24.1) 7) (fun a41 => zoS (sh a41) 100 (fun le43 => if (1 : Int32) < 0 ∨ le43 ≤ (1 : Int32).toNatClampNeg then none else zoL (mI mm38 a41 (1 : Int32).toNatClampNeg 0) (fun mm45 => zoS (sh (q24.1)) 8 (fun le47 => Option.bind (mm45.2.2 (q24.1) 7) (fun a48 => zoS (sh a48) 100 (fun le50 => if (2 : Int32) < 0 ∨ le50 ≤ (2 : Int32).toNatClampNeg then none else zoL (mI mm45 a48 (2 : Int32).toNatClampNeg (-65536)) (fun mm52 => zoS (sh (q24.1)) 8 (fun le54 => Option.bind (mm52.2.2 (q24.1) 7) (fun a55 => zoS (sh a55) 100 (fun le57 => if (3 : Int32) < 0 ∨ le57 ≤ (3 : Int32).toNatClampNeg then none else zoL (mI mm52 a55 (3 : Int32).toNatClampNeg 16384) (fun mm59 => zoS (sh (q24.1)) 8 (fun le61 => zoL (mI mm59 (q24.1) 8 0) (fun mm62 => zoS (sh (q24.1)) 8 (fun le64 => zoL (mI mm62 (q24.1) 9 0) (fun mm65 => some mm65))))))))))))))))))))))))))
set_option maxHeartbeats 4000000 in
set_option maxRecDepth 100000 in
theorem k_XScene_clear (l : Launch) (D : va_G) (tA : Nat → ClassId) (b : Nat) (sh : zSh) (n : Nat) {mm : zMem} {o : Nat} {r : zMem} (h : F_XScene_clear sh mm o = some r) : zM l D tA b zy_XScene_clear zb_XScene_clear 2 none 0 0 0 0 [.ref (b + o)] (zW tA b sh mm) n (zE none (zW tA b sh r) n) := by
  unfold F_XScene_clear at h
  refine zM_of (own := "OrreryBox$Scene") (plainFor_of_name (by decide)) rfl (Nat.le_of_ble_eq_true rfl) (fun p e s m below meth c F hr hin hH => ?_)
  refine zr_iconstv (v := 0) F zd_XScene_clear_0 (by decide) ?_
  refine zr_istore_n F zd_XScene_clear_1 (by decide) ?_
  obtain ⟨q15, eq15, h⟩ := zoB_s h
  refine zr_loc (L' := [(0, .ref (b + o)), (1, .int 0)]) ⟨rfl, rfl, trivial⟩ ?_
  refine lp_XScene_clear_2 F _ _ _ _ _ eq15 ?_
  ·
    refine zr_iconstv (v := 0) F zd_XScene_clear_24 (by decide) ?_
    refine zr_pcn 25 rfl ?_
    refine zr_istore_n F zd_XScene_clear_25 (by decide) ?_
    obtain ⟨q24, eq24, h⟩ := zoB_s h
    refine zr_loc (L' := [(0, .ref (b + (q15.1))), (1, .int 0)]) ⟨rfl, rfl, trivial⟩ ?_
    refine lp_XScene_clear_26 F _ _ _ _ _ eq24 ?_
    ·
      refine zr_aload_n F zd_XScene_clear_45 rfl ?_
      obtain ⟨le26, hs25, h⟩ := zoS_s h
      obtain ⟨a27, ea27, h⟩ := zoB_s h
      refine zr_get F 8 6 zd_XScene_clear_46 (zW_o hs25 (by decide)) rfl (by decide) zw_301 rfl (by rfl) ?_
      refine zr_tor ea27 ?_
      refine zr_bipushv (v := 6) F zd_XScene_clear_49 (by decide) ?_
      refine zr_bipushv (v := 32) F zd_XScene_clear_51 (by decide) ?_
      obtain ⟨le29, hs28, h⟩ := zoS_s h
      obtain ⟨hi30, h⟩ := zoI_s h
      refine zr_iast F zd_XScene_clear_53 (zW_a0 hs28) hi30 ?_
      obtain ⟨mm31, emm31, h⟩ := zoL_s h
      refine zr_norm (zW tA b sh mm31) _ (by rw [emm31]; exact zW_s0 hs28) rfl ?_
      refine zr_pcn 54 rfl ?_
      refine zr_aload_n F zd_XScene_clear_54 rfl ?_
      obtain ⟨le33, hs32, h⟩ := zoS_s h
      obtain ⟨a34, ea34, h⟩ := zoB_s h
      refine zr_get F 8 7 zd_XScene_clear_55 (zW_o hs32 (by decide)) rfl (by decide) zw_305 rfl (by rfl) ?_
      refine zr_tor ea34 ?_
      refine zr_iconstv (v := 0) F zd_XScene_clear_58 (by decide) ?_
      refine zr_iconstv (v := 0) F zd_XScene_clear_59 (by decide) ?_
      obtain ⟨le36, hs35, h⟩ := zoS_s h
      obtain ⟨hi37, h⟩ := zoI_s h
      refine zr_iast F zd_XScene_clear_60 (zW_a0 hs35) hi37 ?_
      obtain ⟨mm38, emm38, h⟩ := zoL_s h
      refine zr_norm (zW tA b sh mm38) _ (by rw [emm38]; exact zW_s0 hs35) rfl ?_
      refine zr_aload_n F zd_XScene_clear_61 rfl ?_
      obtain ⟨le40, hs39, h⟩ := zoS_s h
      obtain ⟨a41, ea41, h⟩ := zoB_s h
      refine zr_get F 8 7 zd_XScene_clear_62 (zW_o hs39 (by decide)) rfl (by decide) zw_305 rfl (by rfl) ?_
      refine zr_tor ea41 ?_
      refine zr_iconstv (v := 1) F zd_XScene_clear_65 (by decide) ?_
      refine zr_pcn 66 rfl ?_
      refine zr_iconstv (v := 0) F zd_XScene_clear_66 (by decide) ?_
      obtain ⟨le43, hs42, h⟩ := zoS_s h
      obtain ⟨hi44, h⟩ := zoI_s h
      refine zr_iast F zd_XScene_clear_67 (zW_a0 hs42) hi44 ?_
      obtain ⟨mm45, emm45, h⟩ := zoL_s h
      refine zr_norm (zW tA b sh mm45) _ (by rw [emm45]; exact zW_s0 hs42) rfl ?_
      refine zr_aload_n F zd_XScene_clear_68 rfl ?_
      obtain ⟨le47, hs46, h⟩ := zoS_s h
      obtain ⟨a48, ea48, h⟩ := zoB_s h
      refine zr_get F 8 7 zd_XScene_clear_69 (zW_o hs46 (by decide)) rfl (by decide) zw_305 rfl (by rfl) ?_
      refine zr_tor ea48 ?_
      refine zr_iconstv (v := 2) F zd_XScene_clear_72 (by decide) ?_
      refine zr_ldc F zd_XScene_clear_73 zw_280 ?_
      obtain ⟨le50, hs49, h⟩ := zoS_s h
      obtain ⟨hi51, h⟩ := zoI_s h
      refine zr_iast F zd_XScene_clear_75 (zW_a0 hs49) hi51 ?_
      obtain ⟨mm52, emm52, h⟩ := zoL_s h
      refine zr_norm (zW tA b sh mm52) _ (by rw [emm52]; exact zW_s0 hs49) rfl ?_
      refine zr_aload_n F zd_XScene_clear_76 rfl ?_
      refine zr_pcn 77 rfl ?_
      obtain ⟨le54, hs53, h⟩ := zoS_s h
      obtain ⟨a55, ea55, h⟩ := zoB_s h
      refine zr_get F 8 7 zd_XScene_clear_77 (zW_o hs53 (by decide)) rfl (by decide) zw_305 rfl (by rfl) ?_
      refine zr_tor ea55 ?_
      refine zr_iconstv (v := 3) F zd_XScene_clear_80 (by decide) ?_
      refine zr_sipushv (v := 16384) F zd_XScene_clear_81 (by decide) ?_
      obtain ⟨le57, hs56, h⟩ := zoS_s h
      obtain ⟨hi58, h⟩ := zoI_s h
      refine zr_iast F zd_XScene_clear_84 (zW_a0 hs56) hi58 ?_
      obtain ⟨mm59, emm59, h⟩ := zoL_s h
      refine zr_norm (zW tA b sh mm59) _ (by rw [emm59]; exact zW_s0 hs56) rfl ?_
      refine zr_aload_n F zd_XScene_clear_85 rfl ?_
      refine zr_iconstv (v := 0) F zd_XScene_clear_86 (by decide) ?_
      obtain ⟨le61, hs60, h⟩ := zoS_s h
      refine zr_put F 8 8 zd_XScene_clear_87 (zW_o hs60 (by decide)) rfl (by decide) zw_309 rfl rfl rfl rfl (by exact (Nat.le_of_ble_eq_true rfl)) ?_
      obtain ⟨mm62, emm62, h⟩ := zoL_s h
      refine zr_norm (zW tA b sh mm62) _ (by rw [emm62]; exact zW_pI (v := 0) hs60 (by decide) (zf_I_8_8 b _ _ _)) rfl ?_
      refine zr_aload_n F zd_XScene_clear_90 rfl ?_
      refine zr_pcn 91 rfl ?_
      refine zr_iconstv (v := 0) F zd_XScene_clear_91 (by decide) ?_
      obtain ⟨le64, hs63, h⟩ := zoS_s h
      refine zr_put F 8 9 zd_XScene_clear_92 (zW_o hs63 (by decide)) rfl (by decide) zw_311 rfl rfl rfl rfl (by exact (Nat.le_of_ble_eq_true rfl)) ?_
      obtain ⟨mm65, emm65, h⟩ := zoL_s h
      refine zr_norm (zW tA b sh mm65) _ (by rw [emm65]; exact zW_pI (v := 0) hs63 (by decide) (zf_I_8_9 b _ _ _)) rfl ?_
      obtain rfl := Option.some.inj h
      exact zr_vret F hr zd_XScene_clear_95 (Nat.le_of_ble_eq_true rfl) (Nat.le_of_ble_eq_true rfl) ⟨rfl, rfl, rfl⟩
def F_XScene_hasNode (sh : zSh) (mm : zMem) (o : Nat) (x0_ : Int32) : Option (Int32 × zMem) := (if x0_ < 0 then some (0, mm) else zoS (sh o) 8 (fun le3 => Option.bind (mm.2.2 o 0) (fun a4 => zoS (sh a4) 100 (fun le6 => if (3 : Int32) < 0 ∨ le6 ≤ (3 : Int32).toNatClampNeg then none else (if (mm.1 a4 (3 : Int32).toNatClampNeg) ≤ x0_ then some (0, mm) else some (1, mm))))))
set_option maxHeartbeats 4000000 in
set_option maxRecDepth 100000 in
theorem k_XScene_hasNode (l : Launch) (D : va_G) (tA : Nat → ClassId) (b : Nat) (sh : zSh) (n : Nat) {mm : zMem} {o : Nat} {x0_ : Int32} {r : (Int32 × zMem)} (h : F_XScene_hasNode sh mm o x0_ = some r) : zM l D tA b zy_XScene_hasNode zb_XScene_hasNode 2 (some .boolean) 0 0 0 0 [.ref (b + o), .int x0_] (zW tA b sh mm) n (zE (some (.int (r.1))) (zW tA b sh r.2) n) := by
  unfold F_XScene_hasNode at h
  refine zM_of (own := "OrreryBox$Scene") (plainFor_of_name (by decide)) rfl (Nat.le_of_ble_eq_true rfl) (fun p e s m below meth c F hr hin hH => ?_)
  refine zr_iload_n F zd_XScene_hasNode_0 rfl ?_
  refine zr_if_lt F 18 zd_XScene_hasNode_1 (by decide) (fun hb1 => ?_) (fun hb1 => ?_)
  ·
    rw [if_pos hb1] at h
    refine zr_iconstv (v := 0) F zd_XScene_hasNode_18 (by decide) ?_
    obtain rfl := Option.some.inj h
    exact zr_zret F hr rfl zd_XScene_hasNode_19 (Nat.le_of_ble_eq_true rfl) (Nat.le_of_ble_eq_true rfl) ⟨rfl, rfl, rfl⟩
  ·
    rw [if_neg hb1] at h
    refine zr_iload_n F zd_XScene_hasNode_4 rfl ?_
    refine zr_aload_n F zd_XScene_hasNode_5 rfl ?_
    obtain ⟨le3, hs2, h⟩ := zoS_s h
    obtain ⟨a4, ea4, h⟩ := zoB_s h
    refine zr_get F 8 0 zd_XScene_hasNode_6 (zW_o hs2 (by decide)) rfl (by decide) zw_281 rfl (by rfl) ?_
    refine zr_tor ea4 ?_
    refine zr_pcn 9 rfl ?_
    refine zr_iconstv (v := 3) F zd_XScene_hasNode_9 (by decide) ?_
    obtain ⟨le6, hs5, h⟩ := zoS_s h
    obtain ⟨hi7, h⟩ := zoI_s h
    refine zr_iald F zd_XScene_hasNode_10 (zW_a0 hs5) hi7 ?_
    refine zr_icmp_ge F 18 zd_XScene_hasNode_11 (by decide) (fun hb8 => ?_) (fun hb8 => ?_)
    ·
      rw [if_pos hb8] at h
      refine zr_iconstv (v := 0) F zd_XScene_hasNode_18 (by decide) ?_
      obtain rfl := Option.some.inj h
      exact zr_zret F hr rfl zd_XScene_hasNode_19 (Nat.le_of_ble_eq_true rfl) (Nat.le_of_ble_eq_true rfl) ⟨rfl, rfl, rfl⟩
    ·
      rw [if_neg hb8] at h
      refine zr_iconstv (v := 1) F zd_XScene_hasNode_14 (by decide) ?_
      refine zr_goto F 19 zd_XScene_hasNode_15 (by decide) ?_
      obtain rfl := Option.some.inj h
      exact zr_zret F hr rfl zd_XScene_hasNode_19 (Nat.le_of_ble_eq_true rfl) (Nat.le_of_ble_eq_true rfl) ⟨rfl, rfl, rfl⟩
abbrev zb_XScene_materialOf : ByteArray := prog_9_method_6_code
def zy_XScene_materialOf : MethodName := ⟨"OrreryBox$Scene", "materialOf", "(I)[I"⟩
theorem zc_XScene_materialOf : Cond.code zy_XScene_materialOf zb_XScene_materialOf 2 (some (.array .int)) ∈ gw := gw_t 691 (by decide +kernel) rfl
theorem zq_XScene_materialOf : zy_XScene_materialOf.cls ≠ "java/lang/invoke/MethodHandle" ∧ zy_XScene_materialOf.cls ≠ "java/lang/invoke/VarHandle" ∧ (parseMethodDescriptor zy_XScene_materialOf.desc).map (fun d => d.parameters.length) = some 1 := by decide +kernel
theorem zd_XScene_materialOf_0 : decode zb_XScene_materialOf 0 = .ok (.aload_n 0, 1) := by decide +kernel
theorem zd_XScene_materialOf_1 : decode zb_XScene_materialOf 1 = .ok (.getfield 26, 3) := by decide +kernel
theorem zd_XScene_materialOf_4 : decode zb_XScene_materialOf 4 = .ok (.aload_n 0, 1) := by decide +kernel
theorem zd_XScene_materialOf_5 : decode zb_XScene_materialOf 5 = .ok (.getfield 31, 3) := by decide +kernel
theorem zd_XScene_materialOf_8 : decode zb_XScene_materialOf 8 = .ok (.aload_n 0, 1) := by decide +kernel
theorem zd_XScene_materialOf_9 : decode zb_XScene_materialOf 9 = .ok (.getfield 37, 3) := by decide +kernel
theorem zd_XScene_materialOf_12 : decode zb_XScene_materialOf 12 = .ok (.iload_n 1, 1) := by decide +kernel
theorem zd_XScene_materialOf_13 : decode zb_XScene_materialOf 13 = .ok (.aaload, 1) := by decide +kernel
theorem zd_XScene_materialOf_14 : decode zb_XScene_materialOf 14 = .ok (.getfield 104, 3) := by decide +kernel
theorem zd_XScene_materialOf_17 : decode zb_XScene_materialOf 17 = .ok (.aaload, 1) := by decide +kernel
theorem zd_XScene_materialOf_18 : decode zb_XScene_materialOf 18 = .ok (.getfield 107, 3) := by decide +kernel
theorem zd_XScene_materialOf_21 : decode zb_XScene_materialOf 21 = .ok (.aaload, 1) := by decide +kernel
theorem zd_XScene_materialOf_22 : decode zb_XScene_materialOf 22 = .ok (.areturn, 1) := by decide +kernel
theorem zw_218 : (Jvm.Cond.fieldLink "OrreryBox$Scene" (104 : Nat) "OrreryBox$Node" "mesh" "I") ∈ gw := gw_t 218 (by decide +kernel) rfl
theorem zw_175 : (Jvm.Cond.fieldLink "OrreryBox$Scene" (107 : Nat) "OrreryBox$Mesh" "material" "I") ∈ gw := gw_t 175 (by decide +kernel) rfl
def F_XScene_materialOf (sh : zSh) (mm : zMem) (o : Nat) (x0_ : Int32) : Option (Nat × zMem) := zoS (sh o) 8 (fun le2 => Option.bind (mm.2.2 o 2) (fun a3 => zoS (sh o) 8 (fun le5 => Option.bind (mm.2.2 o 3) (fun a6 => zoS (sh o) 8 (fun le8 => Option.bind (mm.2.2 o 4) (fun a9 => zoR (sh a9) (fun t13 le11 => if (x0_ : Int32) < 0 ∨ le11 ≤ (x0_ : Int32).toNatClampNeg then none else Option.bind (mm.2.2 a9 (x0_ : Int32).toNatClampNeg) (fun a14 => zoS (sh a14) 3 (fun le16 => zoL (mm.1 a14 1) (fun i17 => zoR (sh a6) (fun t21 le19 => if (i17 : Int32) < 0 ∨ le19 ≤ (i17 : Int32).toNatClampNeg then none else Option.bind (mm.2.2 a6 (i17 : Int32).toNatClampNeg) (fun a22 => zoS (sh a22) 2 (fun le24 => zoL (mm.1 a22 0) (fun i25 => zoR (sh a3) (fun t29 le27 => if (i25 : Int32) < 0 ∨ le27 ≤ (i25 : Int32).toNatClampNeg then none else Option.bind (mm.2.2 a3 (i25 : Int32).toNatClampNeg) (fun a30 => some (a30, mm)))))))))))))))))
set_option maxHeartbeats 4000000 in
set_option maxRecDepth 100000 in
theorem k_XScene_materialOf (l : Launch) (D : va_G) (tA : Nat → ClassId) (b : Nat) (sh : zSh) (n : Nat) {mm : zMem} {o : Nat} {x0_ : Int32} {r : (Nat × zMem)} (h : F_XScene_materialOf sh mm o x0_ = some r) : zM l D tA b zy_XScene_materialOf zb_XScene_materialOf 2 (some (.array .int)) 0 0 0 0 [.ref (b + o), .int x0_] (zW tA b sh mm) n (zE (some (.ref (b + (r.1)))) (zW tA b sh r.2) n) := by
  unfold F_XScene_materialOf at h
  refine zM_of (own := "OrreryBox$Scene") (plainFor_of_name (by decide)) rfl (Nat.le_of_ble_eq_true rfl) (fun p e s m below meth c F hr hin hH => ?_)
  refine zr_aload_n F zd_XScene_materialOf_0 rfl ?_
  obtain ⟨le2, hs1, h⟩ := zoS_s h
  obtain ⟨a3, ea3, h⟩ := zoB_s h
  refine zr_get F 8 2 zd_XScene_materialOf_1 (zW_o hs1 (by decide)) rfl (by decide) zw_288 rfl (by rfl) ?_
  refine zr_tor ea3 ?_
  refine zr_aload_n F zd_XScene_materialOf_4 rfl ?_
  obtain ⟨le5, hs4, h⟩ := zoS_s h
  obtain ⟨a6, ea6, h⟩ := zoB_s h
  refine zr_get F 8 3 zd_XScene_materialOf_5 (zW_o hs4 (by decide)) rfl (by decide) zw_292 rfl (by rfl) ?_
  refine zr_tor ea6 ?_
  refine zr_aload_n F zd_XScene_materialOf_8 rfl ?_
  obtain ⟨le8, hs7, h⟩ := zoS_s h
  obtain ⟨a9, ea9, h⟩ := zoB_s h
  refine zr_get F 8 4 zd_XScene_materialOf_9 (zW_o hs7 (by decide)) rfl (by decide) zw_295 rfl (by rfl) ?_
  refine zr_tor ea9 ?_
  refine zr_iload_n F zd_XScene_materialOf_12 rfl ?_
  refine zr_pcn 13 rfl ?_
  obtain ⟨t13, le11, hs10, h⟩ := zoR_s h
  obtain ⟨hi12, h⟩ := zoI_s h
  obtain ⟨a14, ea14, h⟩ := zoB_s h
  refine zr_aaldW F zd_XScene_materialOf_13 hs10 hi12 ea14 ?_
  obtain ⟨le16, hs15, h⟩ := zoS_s h
  refine zr_get F 3 1 zd_XScene_materialOf_14 (zW_o hs15 (by decide)) rfl (by decide) zw_218 rfl (by rfl) ?_
  obtain ⟨i17, ei17, h⟩ := zoL_s h
  rw [← ei17]
  obtain ⟨t21, le19, hs18, h⟩ := zoR_s h
  obtain ⟨hi20, h⟩ := zoI_s h
  obtain ⟨a22, ea22, h⟩ := zoB_s h
  refine zr_aaldW F zd_XScene_materialOf_17 hs18 hi20 ea22 ?_
  obtain ⟨le24, hs23, h⟩ := zoS_s h
  refine zr_get F 2 0 zd_XScene_materialOf_18 (zW_o hs23 (by decide)) rfl (by decide) zw_175 rfl (by rfl) ?_
  obtain ⟨i25, ei25, h⟩ := zoL_s h
  rw [← ei25]
  obtain ⟨t29, le27, hs26, h⟩ := zoR_s h
  obtain ⟨hi28, h⟩ := zoI_s h
  obtain ⟨a30, ea30, h⟩ := zoB_s h
  refine zr_aaldW F zd_XScene_materialOf_21 hs26 hi28 ea30 ?_
  obtain rfl := Option.some.inj h
  exact zr_aret F hr (Or.inr ⟨_, rfl⟩) (Or.inr ⟨_, rfl⟩) zd_XScene_materialOf_22 (Nat.le_of_ble_eq_true rfl) (Nat.le_of_ble_eq_true rfl) ⟨rfl, rfl, rfl⟩
def F_XSight_swapAcross (sh : zSh) (mm : zMem) (o : Nat) (x0_ : Int32) (x1_ : Int32) : Option zMem := zoS (sh o) 9 (fun le2 => Option.bind (mm.2.2 o 8) (fun a3 => zoS (sh a3) 100 (fun le5 => if (x0_ : Int32) < 0 ∨ le5 ≤ (x0_ : Int32).toNatClampNeg then none else zoL (mm.1 a3 (x0_ : Int32).toNatClampNeg) (fun x7 => zoS (sh o) 9 (fun le9 => Option.bind (mm.2.2 o 8) (fun a10 => zoS (sh o) 9 (fun le12 => Option.bind (mm.2.2 o 8) (fun a13 => zoS (sh a13) 100 (fun le15 => if (x1_ : Int32) < 0 ∨ le15 ≤ (x1_ : Int32).toNatClampNeg then none else zoL (mm.1 a13 (x1_ : Int32).toNatClampNeg) (fun x17 => zoS (sh a10) 100 (fun le19 => if (x0_ : Int32) < 0 ∨ le19 ≤ (x0_ : Int32).toNatClampNeg then none else zoL (mI mm a10 (x0_ : Int32).toNatClampNeg x17) (fun mm21 => zoS (sh o) 9 (fun le23 => Option.bind (mm21.2.2 o 8) (fun a24 => zoS (sh a24) 100 (fun le26 => if (x1_ : Int32) < 0 ∨ le26 ≤ (x1_ : Int32).toNatClampNeg then none else zoL (mI mm21 a24 (x1_ : Int32).toNatClampNeg x7) (fun mm28 => some mm28))))))))))))))))
set_option maxHeartbeats 4000000 in
set_option maxRecDepth 100000 in
theorem k_XSight_swapAcross (l : Launch) (D : va_G) (tA : Nat → ClassId) (b : Nat) (sh : zSh) (n : Nat) {mm : zMem} {o : Nat} {x0_ : Int32} {x1_ : Int32} {r : zMem} (h : F_XSight_swapAcross sh mm o x0_ x1_ = some r) : zM l D tA b zy_XSight_swapAcross zb_XSight_swapAcross 4 none 0 0 0 0 [.ref (b + o), .int x0_, .int x1_] (zW tA b sh mm) n (zE none (zW tA b sh r) n) := by
  unfold F_XSight_swapAcross at h
  refine zM_of (own := "OrreryBox$Sight") (plainFor_of_name (by decide)) rfl (Nat.le_of_ble_eq_true rfl) (fun p e s m below meth c F hr hin hH => ?_)
  refine zr_aload_n F zd_XSight_swapAcross_0 rfl ?_
  obtain ⟨le2, hs1, h⟩ := zoS_s h
  obtain ⟨a3, ea3, h⟩ := zoB_s h
  refine zr_get F 9 8 zd_XSight_swapAcross_1 (zW_o hs1 (by decide)) rfl (by decide) zw_381 rfl (by rfl) ?_
  refine zr_tor ea3 ?_
  refine zr_iload_n F zd_XSight_swapAcross_4 rfl ?_
  obtain ⟨le5, hs4, h⟩ := zoS_s h
  obtain ⟨hi6, h⟩ := zoI_s h
  refine zr_iald F zd_XSight_swapAcross_5 (zW_a0 hs4) hi6 ?_
  obtain ⟨x7, ex7, h⟩ := zoL_s h
  rw [← ex7]
  refine zr_istore_n F zd_XSight_swapAcross_6 (by decide) ?_
  refine zr_aload_n F zd_XSight_swapAcross_7 rfl ?_
  obtain ⟨le9, hs8, h⟩ := zoS_s h
  obtain ⟨a10, ea10, h⟩ := zoB_s h
  refine zr_get F 9 8 zd_XSight_swapAcross_8 (zW_o hs8 (by decide)) rfl (by decide) zw_381 rfl (by rfl) ?_
  refine zr_tor ea10 ?_
  refine zr_pcn 11 rfl ?_
  refine zr_iload_n F zd_XSight_swapAcross_11 rfl ?_
  refine zr_aload_n F zd_XSight_swapAcross_12 rfl ?_
  obtain ⟨le12, hs11, h⟩ := zoS_s h
  obtain ⟨a13, ea13, h⟩ := zoB_s h
  refine zr_get F 9 8 zd_XSight_swapAcross_13 (zW_o hs11 (by decide)) rfl (by decide) zw_381 rfl (by rfl) ?_
  refine zr_tor ea13 ?_
  refine zr_iload_n F zd_XSight_swapAcross_16 rfl ?_
  obtain ⟨le15, hs14, h⟩ := zoS_s h
  obtain ⟨hi16, h⟩ := zoI_s h
  refine zr_iald F zd_XSight_swapAcross_17 (zW_a0 hs14) hi16 ?_
  obtain ⟨x17, ex17, h⟩ := zoL_s h
  rw [← ex17]
  obtain ⟨le19, hs18, h⟩ := zoS_s h
  obtain ⟨hi20, h⟩ := zoI_s h
  refine zr_iast F zd_XSight_swapAcross_18 (zW_a0 hs18) hi20 ?_
  obtain ⟨mm21, emm21, h⟩ := zoL_s h
  refine zr_norm (zW tA b sh mm21) _ (by rw [emm21]; exact zW_s0 hs18) rfl ?_
  refine zr_aload_n F zd_XSight_swapAcross_19 rfl ?_
  obtain ⟨le23, hs22, h⟩ := zoS_s h
  obtain ⟨a24, ea24, h⟩ := zoB_s h
  refine zr_get F 9 8 zd_XSight_swapAcross_20 (zW_o hs22 (by decide)) rfl (by decide) zw_381 rfl (by rfl) ?_
  refine zr_tor ea24 ?_
  refine zr_pcn 23 rfl ?_
  refine zr_iload_n F zd_XSight_swapAcross_23 rfl ?_
  refine zr_iload_n F zd_XSight_swapAcross_24 rfl ?_
  obtain ⟨le26, hs25, h⟩ := zoS_s h
  obtain ⟨hi27, h⟩ := zoI_s h
  refine zr_iast F zd_XSight_swapAcross_25 (zW_a0 hs25) hi27 ?_
  obtain ⟨mm28, emm28, h⟩ := zoL_s h
  refine zr_norm (zW tA b sh mm28) _ (by rw [emm28]; exact zW_s0 hs25) rfl ?_
  obtain rfl := Option.some.inj h
  exact zr_vret F hr zd_XSight_swapAcross_26 (Nat.le_of_ble_eq_true rfl) (Nat.le_of_ble_eq_true rfl) ⟨rfl, rfl, rfl⟩
abbrev zb_XSight_goesBefore : ByteArray := prog_10_method_6_code
def zy_XSight_goesBefore : MethodName := ⟨"OrreryBox$Sight", "goesBefore", "(II)Z"⟩
theorem zc_XSight_goesBefore : Cond.code zy_XSight_goesBefore zb_XSight_goesBefore 4 (some .boolean) ∈ gw := gw_t 687 (by decide +kernel) rfl
theorem zq_XSight_goesBefore : zy_XSight_goesBefore.cls ≠ "java/lang/invoke/MethodHandle" ∧ zy_XSight_goesBefore.cls ≠ "java/lang/invoke/VarHandle" ∧ (parseMethodDescriptor zy_XSight_goesBefore.desc).map (fun d => d.parameters.length) = some 2 := by decide +kernel
theorem zd_XSight_goesBefore_0 : decode zb_XSight_goesBefore 0 = .ok (.aload_n 0, 1) := by decide +kernel
theorem zd_XSight_goesBefore_1 : decode zb_XSight_goesBefore 1 = .ok (.getfield 49, 3) := by decide +kernel
theorem zd_XSight_goesBefore_4 : decode zb_XSight_goesBefore 4 = .ok (.iload_n 1, 1) := by decide +kernel
theorem zd_XSight_goesBefore_5 : decode zb_XSight_goesBefore 5 = .ok (.invokevirtual 125, 3) := by decide +kernel
theorem zd_XSight_goesBefore_8 : decode zb_XSight_goesBefore 8 = .ok (.iconst 3, 1) := by decide +kernel
theorem zd_XSight_goesBefore_9 : decode zb_XSight_goesBefore 9 = .ok (.iaload, 1) := by decide +kernel
theorem zd_XSight_goesBefore_10 : decode zb_XSight_goesBefore 10 = .ok (.sipush 255, 3) := by decide +kernel
theorem zd_XSight_goesBefore_13 : decode zb_XSight_goesBefore 13 = .ok (.if_icmp .ne 7, 3) := by decide +kernel
theorem zd_XSight_goesBefore_16 : decode zb_XSight_goesBefore 16 = .ok (.iconst 1, 1) := by decide +kernel
theorem zd_XSight_goesBefore_17 : decode zb_XSight_goesBefore 17 = .ok (.goto 4, 3) := by decide +kernel
theorem zd_XSight_goesBefore_20 : decode zb_XSight_goesBefore 20 = .ok (.iconst 0, 1) := by decide +kernel
theorem zd_XSight_goesBefore_21 : decode zb_XSight_goesBefore 21 = .ok (.istore_n 3, 1) := by decide +kernel
theorem zd_XSight_goesBefore_22 : decode zb_XSight_goesBefore 22 = .ok (.iload_n 3, 1) := by decide +kernel
theorem zd_XSight_goesBefore_23 : decode zb_XSight_goesBefore 23 = .ok (.aload_n 0, 1) := by decide +kernel
theorem zd_XSight_goesBefore_24 : decode zb_XSight_goesBefore 24 = .ok (.getfield 49, 3) := by decide +kernel
theorem zd_XSight_goesBefore_27 : decode zb_XSight_goesBefore 27 = .ok (.iload_n 2, 1) := by decide +kernel
theorem zd_XSight_goesBefore_28 : decode zb_XSight_goesBefore 28 = .ok (.invokevirtual 125, 3) := by decide +kernel
theorem zd_XSight_goesBefore_31 : decode zb_XSight_goesBefore 31 = .ok (.iconst 3, 1) := by decide +kernel
theorem zd_XSight_goesBefore_32 : decode zb_XSight_goesBefore 32 = .ok (.iaload, 1) := by decide +kernel
theorem zd_XSight_goesBefore_33 : decode zb_XSight_goesBefore 33 = .ok (.sipush 255, 3) := by decide +kernel
theorem zd_XSight_goesBefore_36 : decode zb_XSight_goesBefore 36 = .ok (.if_icmp .ne 7, 3) := by decide +kernel
theorem zd_XSight_goesBefore_39 : decode zb_XSight_goesBefore 39 = .ok (.iconst 1, 1) := by decide +kernel
theorem zd_XSight_goesBefore_40 : decode zb_XSight_goesBefore 40 = .ok (.goto 4, 3) := by decide +kernel
theorem zd_XSight_goesBefore_43 : decode zb_XSight_goesBefore 43 = .ok (.iconst 0, 1) := by decide +kernel
theorem zd_XSight_goesBefore_44 : decode zb_XSight_goesBefore 44 = .ok (.if_icmp .eq 5, 3) := by decide +kernel
theorem zd_XSight_goesBefore_47 : decode zb_XSight_goesBefore 47 = .ok (.iload_n 3, 1) := by decide +kernel
theorem zd_XSight_goesBefore_48 : decode zb_XSight_goesBefore 48 = .ok (.ireturn, 1) := by decide +kernel
theorem zd_XSight_goesBefore_49 : decode zb_XSight_goesBefore 49 = .ok (.iload_n 3, 1) := by decide +kernel
theorem zd_XSight_goesBefore_50 : decode zb_XSight_goesBefore 50 = .ok (.ifCond .eq 32, 3) := by decide +kernel
theorem zd_XSight_goesBefore_53 : decode zb_XSight_goesBefore 53 = .ok (.aload_n 0, 1) := by decide +kernel
theorem zd_XSight_goesBefore_54 : decode zb_XSight_goesBefore 54 = .ok (.getfield 30, 3) := by decide +kernel
theorem zd_XSight_goesBefore_57 : decode zb_XSight_goesBefore 57 = .ok (.iload_n 1, 1) := by decide +kernel
theorem zd_XSight_goesBefore_58 : decode zb_XSight_goesBefore 58 = .ok (.aaload, 1) := by decide +kernel
theorem zd_XSight_goesBefore_59 : decode zb_XSight_goesBefore 59 = .ok (.bipush 11, 2) := by decide +kernel
theorem zd_XSight_goesBefore_61 : decode zb_XSight_goesBefore 61 = .ok (.iaload, 1) := by decide +kernel
theorem zd_XSight_goesBefore_62 : decode zb_XSight_goesBefore 62 = .ok (.aload_n 0, 1) := by decide +kernel
theorem zd_XSight_goesBefore_63 : decode zb_XSight_goesBefore 63 = .ok (.getfield 30, 3) := by decide +kernel
theorem zd_XSight_goesBefore_66 : decode zb_XSight_goesBefore 66 = .ok (.iload_n 2, 1) := by decide +kernel
theorem zd_XSight_goesBefore_67 : decode zb_XSight_goesBefore 67 = .ok (.aaload, 1) := by decide +kernel
theorem zd_XSight_goesBefore_68 : decode zb_XSight_goesBefore 68 = .ok (.bipush 11, 2) := by decide +kernel
theorem zd_XSight_goesBefore_70 : decode zb_XSight_goesBefore 70 = .ok (.iaload, 1) := by decide +kernel
theorem zd_XSight_goesBefore_71 : decode zb_XSight_goesBefore 71 = .ok (.if_icmp .ge 7, 3) := by decide +kernel
theorem zd_XSight_goesBefore_74 : decode zb_XSight_goesBefore 74 = .ok (.iconst 1, 1) := by decide +kernel
theorem zd_XSight_goesBefore_75 : decode zb_XSight_goesBefore 75 = .ok (.goto 33, 3) := by decide +kernel
theorem zd_XSight_goesBefore_78 : decode zb_XSight_goesBefore 78 = .ok (.iconst 0, 1) := by decide +kernel
theorem zd_XSight_goesBefore_79 : decode zb_XSight_goesBefore 79 = .ok (.goto 29, 3) := by decide +kernel
theorem zd_XSight_goesBefore_82 : decode zb_XSight_goesBefore 82 = .ok (.aload_n 0, 1) := by decide +kernel
theorem zd_XSight_goesBefore_83 : decode zb_XSight_goesBefore 83 = .ok (.getfield 30, 3) := by decide +kernel
theorem zd_XSight_goesBefore_86 : decode zb_XSight_goesBefore 86 = .ok (.iload_n 1, 1) := by decide +kernel
theorem zd_XSight_goesBefore_87 : decode zb_XSight_goesBefore 87 = .ok (.aaload, 1) := by decide +kernel
theorem zd_XSight_goesBefore_88 : decode zb_XSight_goesBefore 88 = .ok (.bipush 11, 2) := by decide +kernel
theorem zd_XSight_goesBefore_90 : decode zb_XSight_goesBefore 90 = .ok (.iaload, 1) := by decide +kernel
theorem zd_XSight_goesBefore_91 : decode zb_XSight_goesBefore 91 = .ok (.aload_n 0, 1) := by decide +kernel
theorem zd_XSight_goesBefore_92 : decode zb_XSight_goesBefore 92 = .ok (.getfield 30, 3) := by decide +kernel
theorem zd_XSight_goesBefore_95 : decode zb_XSight_goesBefore 95 = .ok (.iload_n 2, 1) := by decide +kernel
theorem zd_XSight_goesBefore_96 : decode zb_XSight_goesBefore 96 = .ok (.aaload, 1) := by decide +kernel
theorem zd_XSight_goesBefore_97 : decode zb_XSight_goesBefore 97 = .ok (.bipush 11, 2) := by decide +kernel
theorem zd_XSight_goesBefore_99 : decode zb_XSight_goesBefore 99 = .ok (.iaload, 1) := by decide +kernel
theorem zd_XSight_goesBefore_100 : decode zb_XSight_goesBefore 100 = .ok (.if_icmp .le 7, 3) := by decide +kernel
theorem zd_XSight_goesBefore_103 : decode zb_XSight_goesBefore 103 = .ok (.iconst 1, 1) := by decide +kernel
theorem zd_XSight_goesBefore_104 : decode zb_XSight_goesBefore 104 = .ok (.goto 4, 3) := by decide +kernel
theorem zd_XSight_goesBefore_107 : decode zb_XSight_goesBefore 107 = .ok (.iconst 0, 1) := by decide +kernel
theorem zd_XSight_goesBefore_108 : decode zb_XSight_goesBefore 108 = .ok (.ireturn, 1) := by decide +kernel
theorem zw_688 : (Jvm.Cond.methodLink "OrreryBox$Sight" (125 : Nat) ({ cls := "OrreryBox$Scene", name := "materialOf", desc := "(I)[I" } : Jvm.MethodName)) ∈ gw := gw_t 688 (by decide +kernel) rfl
theorem zw_689 : (Jvm.Cond.instanceMethod ({ cls := "OrreryBox$Scene", name := "materialOf", desc := "(I)[I" } : Jvm.MethodName)) ∈ gw := gw_t 689 (by decide +kernel) rfl
theorem zw_690 : (Jvm.Cond.selects "OrreryBox$Scene" ({ cls := "OrreryBox$Scene", name := "materialOf", desc := "(I)[I" } : Jvm.MethodName) ({ cls := "OrreryBox$Scene", name := "materialOf", desc := "(I)[I" } : Jvm.MethodName)) ∈ gw := gw_t 690 (by decide +kernel) rfl
theorem zs_XSight_125 : zwV "OrreryBox$Sight" 125 "OrreryBox$Scene" zy_XScene_materialOf zb_XScene_materialOf 2 (some (.array .int)) := ⟨zw_688, zw_689, zw_690, zw_5, zc_XScene_materialOf⟩
def F_XSight_goesBefore (sh : zSh) (mm : zMem) (o : Nat) (x0_ : Int32) (x1_ : Int32) : Option (Int32 × zMem) := zoS (sh o) 9 (fun le2 => Option.bind (mm.2.2 o 7) (fun a3 => zoS (sh a3) 8 (fun le5 => Option.bind (F_XScene_materialOf sh mm a3 x0_) (fun p6 => zoS (sh (p6.1)) 100 (fun le8 => if (3 : Int32) < 0 ∨ le8 ≤ (3 : Int32).toNatClampNeg then none else (if ((p6.2).1 (p6.1) (3 : Int32).toNatClampNeg) = 255 then zoS (sh o) 9 (fun le45 => Option.bind ((p6.2).2.2 o 7) (fun a46 => zoS (sh a46) 8 (fun le48 => Option.bind (F_XScene_materialOf sh (p6.2) a46 x1_) (fun p49 => zoS (sh (p49.1)) 100 (fun le51 => if (3 : Int32) < 0 ∨ le51 ≤ (3 : Int32).toNatClampNeg then none else (if ((p49.2).1 (p49.1) (3 : Int32).toNatClampNeg) = 255 then zoS (sh o) 9 (fun le55 => Option.bind ((p49.2).2.2 o 9) (fun a56 => zoR (sh a56) (fun t60 le58 => if (x0_ : Int32) < 0 ∨ le58 ≤ (x0_ : Int32).toNatClampNeg then none else Option.bind ((p49.2).2.2 a56 (x0_ : Int32).toNatClampNeg) (fun a61 => zoS (sh a61) 100 (fun le63 => if (11 : Int32) < 0 ∨ le63 ≤ (11 : Int32).toNatClampNeg then none else zoS (sh o) 9 (fun le66 => Option.bind ((p49.2).2.2 o 9) (fun a67 => zoR (sh a67) (fun t71 le69 => if (x1_ : Int32) < 0 ∨ le69 ≤ (x1_ : Int32).toNatClampNeg then none else Option.bind ((p49.2).2.2 a67 (x1_ : Int32).toNatClampNeg) (fun a72 => zoS (sh a72) 100 (fun le74 => if (11 : Int32) < 0 ∨ le74 ≤ (11 : Int32).toNatClampNeg then none else (if ((p49.2).1 a72 (11 : Int32).toNatClampNeg) ≤ ((p49.2).1 a61 (11 : Int32).toNatClampNeg) then some (0, p49.2) else some (1, p49.2)))))))))))) else some (1, p49.2))))))) else zoS (sh o) 9 (fun le12 => Option.bind ((p6.2).2.2 o 7) (fun a13 => zoS (sh a13) 8 (fun le15 => Option.bind (F_XScene_materialOf sh (p6.2) a13 x1_) (fun p16 => zoS (sh (p16.1)) 100 (fun le18 => if (3 : Int32) < 0 ∨ le18 ≤ (3 : Int32).toNatClampNeg then none else (if ((p16.2).1 (p16.1) (3 : Int32).toNatClampNeg) = 255 then some (0, p16.2) else zoS (sh o) 9 (fun le22 => Option.bind ((p16.2).2.2 o 9) (fun a23 => zoR (sh a23) (fun t27 le25 => if (x0_ : Int32) < 0 ∨ le25 ≤ (x0_ : Int32).toNatClampNeg then none else Option.bind ((p16.2).2.2 a23 (x0_ : Int32).toNatClampNeg) (fun a28 => zoS (sh a28) 100 (fun le30 => if (11 : Int32) < 0 ∨ le30 ≤ (11 : Int32).toNatClampNeg then none else zoS (sh o) 9 (fun le33 => Option.bind ((p16.2).2.2 o 9) (fun a34 => zoR (sh a34) (fun t38 le36 => if (x1_ : Int32) < 0 ∨ le36 ≤ (x1_ : Int32).toNatClampNeg then none else Option.bind ((p16.2).2.2 a34 (x1_ : Int32).toNatClampNeg) (fun a39 => zoS (sh a39) 100 (fun le41 => if (11 : Int32) < 0 ∨ le41 ≤ (11 : Int32).toNatClampNeg then none else (if ((p16.2).1 a28 (11 : Int32).toNatClampNeg) ≤ ((p16.2).1 a39 (11 : Int32).toNatClampNeg) then some (0, p16.2) else some (1, p16.2))))))))))))))))))))))))
set_option maxHeartbeats 4000000 in
set_option maxRecDepth 100000 in
theorem k_XSight_goesBefore (l : Launch) (D : va_G) (tA : Nat → ClassId) (b : Nat) (sh : zSh) (n : Nat) {mm : zMem} {o : Nat} {x0_ : Int32} {x1_ : Int32} {r : (Int32 × zMem)} (h : F_XSight_goesBefore sh mm o x0_ x1_ = some r) : zM l D tA b zy_XSight_goesBefore zb_XSight_goesBefore 4 (some .boolean) 1 21 0 0 [.ref (b + o), .int x0_, .int x1_] (zW tA b sh mm) n (zE (some (.int (r.1))) (zW tA b sh r.2) n) := by
  unfold F_XSight_goesBefore at h
  refine zM_of (own := "OrreryBox$Sight") (plainFor_of_name (by decide)) rfl (Nat.le_of_ble_eq_true rfl) (fun p e s m below meth c F hr hin hH => ?_)
  refine zr_aload_n F zd_XSight_goesBefore_0 rfl ?_
  obtain ⟨le2, hs1, h⟩ := zoS_s h
  obtain ⟨a3, ea3, h⟩ := zoB_s h
  refine zr_get F 9 7 zd_XSight_goesBefore_1 (zW_o hs1 (by decide)) rfl (by decide) zw_380 rfl (by rfl) ?_
  refine zr_tor ea3 ?_
  refine zr_iload_n F zd_XSight_goesBefore_4 rfl ?_
  obtain ⟨le5, hs4, h⟩ := zoS_s h
  obtain ⟨p6, ep6, h⟩ := zoB_s h
  refine zr_callV1 F (k_XScene_materialOf l D tA b sh _ ep6) zd_XSight_goesBefore_5 (zW_o hs4 (by decide)) rfl zs_XSight_125 rfl zq_XScene_materialOf rfl rfl ⟨(Nat.le_of_ble_eq_true rfl), (Nat.le_of_ble_eq_true rfl)⟩ (Nat.le_of_ble_eq_true rfl) ⟨(Nat.le_of_ble_eq_true rfl), (Nat.le_of_ble_eq_true rfl)⟩ ?_
  refine zr_iconstv (v := 3) F zd_XSight_goesBefore_8 (by decide) ?_
  obtain ⟨le8, hs7, h⟩ := zoS_s h
  obtain ⟨hi9, h⟩ := zoI_s h
  refine zr_iald F zd_XSight_goesBefore_9 (zW_a0 hs7) hi9 ?_
  refine zr_sipushv (v := 255) F zd_XSight_goesBefore_10 (by decide) ?_
  refine zr_pcn 13 rfl ?_
  refine zr_icmp_ne F 20 zd_XSight_goesBefore_13 (by decide) (fun hb10 => ?_) (fun hb10 => ?_)
  ·
    rw [if_neg hb10] at h
    refine zr_iconstv (v := 0) F zd_XSight_goesBefore_20 (by decide) ?_
    refine zr_istore_n F zd_XSight_goesBefore_21 (by decide) ?_
    refine zr_iload_n F zd_XSight_goesBefore_22 rfl ?_
    refine zr_aload_n F zd_XSight_goesBefore_23 rfl ?_
    obtain ⟨le12, hs11, h⟩ := zoS_s h
    obtain ⟨a13, ea13, h⟩ := zoB_s h
    refine zr_get F 9 7 zd_XSight_goesBefore_24 (zW_o hs11 (by decide)) rfl (by decide) zw_380 rfl (by rfl) ?_
    refine zr_tor ea13 ?_
    refine zr_iload_n F zd_XSight_goesBefore_27 rfl ?_
    obtain ⟨le15, hs14, h⟩ := zoS_s h
    obtain ⟨p16, ep16, h⟩ := zoB_s h
    refine zr_callV1 F (k_XScene_materialOf l D tA b sh _ ep16) zd_XSight_goesBefore_28 (zW_o hs14 (by decide)) rfl zs_XSight_125 rfl zq_XScene_materialOf rfl rfl ⟨(Nat.le_of_ble_eq_true rfl), (Nat.le_of_ble_eq_true rfl)⟩ (Nat.le_of_ble_eq_true rfl) ⟨(Nat.le_of_ble_eq_true rfl), (Nat.le_of_ble_eq_true rfl)⟩ ?_
    refine zr_pcn 31 rfl ?_
    refine zr_iconstv (v := 3) F zd_XSight_goesBefore_31 (by decide) ?_
    obtain ⟨le18, hs17, h⟩ := zoS_s h
    obtain ⟨hi19, h⟩ := zoI_s h
    refine zr_iald F zd_XSight_goesBefore_32 (zW_a0 hs17) hi19 ?_
    refine zr_sipushv (v := 255) F zd_XSight_goesBefore_33 (by decide) ?_
    refine zr_icmp_ne F 43 zd_XSight_goesBefore_36 (by decide) (fun hb20 => ?_) (fun hb20 => ?_)
    ·
      rw [if_neg hb20] at h
      refine zr_iconstv (v := 0) F zd_XSight_goesBefore_43 (by decide) ?_
      refine zr_icmp_eq F 49 zd_XSight_goesBefore_44 (by decide) (fun _ => ?_) (fun hq => absurd hq (by decide))
      refine zr_iload_n F zd_XSight_goesBefore_49 rfl ?_
      refine zr_if_eq F 82 zd_XSight_goesBefore_50 (by decide) (fun _ => ?_) (fun hq => absurd hq (by decide))
      refine zr_pcn 82 rfl ?_
      refine zr_aload_n F zd_XSight_goesBefore_82 rfl ?_
      obtain ⟨le22, hs21, h⟩ := zoS_s h
      obtain ⟨a23, ea23, h⟩ := zoB_s h
      refine zr_get F 9 9 zd_XSight_goesBefore_83 (zW_o hs21 (by decide)) rfl (by decide) zw_382 rfl (by rfl) ?_
      refine zr_tor ea23 ?_
      refine zr_iload_n F zd_XSight_goesBefore_86 rfl ?_
      obtain ⟨t27, le25, hs24, h⟩ := zoR_s h
      obtain ⟨hi26, h⟩ := zoI_s h
      obtain ⟨a28, ea28, h⟩ := zoB_s h
      refine zr_aaldW F zd_XSight_goesBefore_87 hs24 hi26 ea28 ?_
      refine zr_bipushv (v := 11) F zd_XSight_goesBefore_88 (by decide) ?_
      obtain ⟨le30, hs29, h⟩ := zoS_s h
      obtain ⟨hi31, h⟩ := zoI_s h
      refine zr_iald F zd_XSight_goesBefore_90 (zW_a0 hs29) hi31 ?_
      refine zr_aload_n F zd_XSight_goesBefore_91 rfl ?_
      obtain ⟨le33, hs32, h⟩ := zoS_s h
      obtain ⟨a34, ea34, h⟩ := zoB_s h
      refine zr_get F 9 9 zd_XSight_goesBefore_92 (zW_o hs32 (by decide)) rfl (by decide) zw_382 rfl (by rfl) ?_
      refine zr_tor ea34 ?_
      refine zr_pcn 95 rfl ?_
      refine zr_iload_n F zd_XSight_goesBefore_95 rfl ?_
      obtain ⟨t38, le36, hs35, h⟩ := zoR_s h
      obtain ⟨hi37, h⟩ := zoI_s h
      obtain ⟨a39, ea39, h⟩ := zoB_s h
      refine zr_aaldW F zd_XSight_goesBefore_96 hs35 hi37 ea39 ?_
      refine zr_bipushv (v := 11) F zd_XSight_goesBefore_97 (by decide) ?_
      obtain ⟨le41, hs40, h⟩ := zoS_s h
      obtain ⟨hi42, h⟩ := zoI_s h
      refine zr_iald F zd_XSight_goesBefore_99 (zW_a0 hs40) hi42 ?_
      refine zr_icmp_le F 107 zd_XSight_goesBefore_100 (by decide) (fun hb43 => ?_) (fun hb43 => ?_)
      ·
        rw [if_pos hb43] at h
        refine zr_iconstv (v := 0) F zd_XSight_goesBefore_107 (by decide) ?_
        obtain rfl := Option.some.inj h
        exact zr_zret F hr rfl zd_XSight_goesBefore_108 (Nat.le_of_ble_eq_true rfl) (Nat.le_of_ble_eq_true rfl) ⟨rfl, rfl, rfl⟩
      ·
        rw [if_neg hb43] at h
        refine zr_iconstv (v := 1) F zd_XSight_goesBefore_103 (by decide) ?_
        refine zr_pcn 104 rfl ?_
        refine zr_goto F 108 zd_XSight_goesBefore_104 (by decide) ?_
        obtain rfl := Option.some.inj h
        exact zr_zret F hr rfl zd_XSight_goesBefore_108 (Nat.le_of_ble_eq_true rfl) (Nat.le_of_ble_eq_true rfl) ⟨rfl, rfl, rfl⟩
    ·
      rw [if_pos hb20] at h
      refine zr_iconstv (v := 1) F zd_XSight_goesBefore_39 (by decide) ?_
      refine zr_goto F 44 zd_XSight_goesBefore_40 (by decide) ?_
      refine zr_icmp_eq F 49 zd_XSight_goesBefore_44 (by decide) (fun hq => absurd hq (by decide)) (fun _ => ?_)
      refine zr_iload_n F zd_XSight_goesBefore_47 rfl ?_
      obtain rfl := Option.some.inj h
      exact zr_zret F hr rfl zd_XSight_goesBefore_48 (Nat.le_of_ble_eq_true rfl) (Nat.le_of_ble_eq_true rfl) ⟨rfl, rfl, rfl⟩
  ·
    rw [if_pos hb10] at h
    refine zr_iconstv (v := 1) F zd_XSight_goesBefore_16 (by decide) ?_
    refine zr_pcn 17 rfl ?_
    refine zr_goto F 21 zd_XSight_goesBefore_17 (by decide) ?_
    refine zr_istore_n F zd_XSight_goesBefore_21 (by decide) ?_
    refine zr_iload_n F zd_XSight_goesBefore_22 rfl ?_
    refine zr_aload_n F zd_XSight_goesBefore_23 rfl ?_
    obtain ⟨le45, hs44, h⟩ := zoS_s h
    obtain ⟨a46, ea46, h⟩ := zoB_s h
    refine zr_get F 9 7 zd_XSight_goesBefore_24 (zW_o hs44 (by decide)) rfl (by decide) zw_380 rfl (by rfl) ?_
    refine zr_tor ea46 ?_
    refine zr_iload_n F zd_XSight_goesBefore_27 rfl ?_
    obtain ⟨le48, hs47, h⟩ := zoS_s h
    obtain ⟨p49, ep49, h⟩ := zoB_s h
    refine zr_callV1 F (k_XScene_materialOf l D tA b sh _ ep49) zd_XSight_goesBefore_28 (zW_o hs47 (by decide)) rfl zs_XSight_125 rfl zq_XScene_materialOf rfl rfl ⟨(Nat.le_of_ble_eq_true rfl), (Nat.le_of_ble_eq_true rfl)⟩ (Nat.le_of_ble_eq_true rfl) ⟨(Nat.le_of_ble_eq_true rfl), (Nat.le_of_ble_eq_true rfl)⟩ ?_
    refine zr_iconstv (v := 3) F zd_XSight_goesBefore_31 (by decide) ?_
    refine zr_pcn 32 rfl ?_
    obtain ⟨le51, hs50, h⟩ := zoS_s h
    obtain ⟨hi52, h⟩ := zoI_s h
    refine zr_iald F zd_XSight_goesBefore_32 (zW_a0 hs50) hi52 ?_
    refine zr_sipushv (v := 255) F zd_XSight_goesBefore_33 (by decide) ?_
    refine zr_icmp_ne F 43 zd_XSight_goesBefore_36 (by decide) (fun hb53 => ?_) (fun hb53 => ?_)
    ·
      rw [if_neg hb53] at h
      refine zr_iconstv (v := 0) F zd_XSight_goesBefore_43 (by decide) ?_
      refine zr_icmp_eq F 49 zd_XSight_goesBefore_44 (by decide) (fun hq => absurd hq (by decide)) (fun _ => ?_)
      refine zr_iload_n F zd_XSight_goesBefore_47 rfl ?_
      obtain rfl := Option.some.inj h
      exact zr_zret F hr rfl zd_XSight_goesBefore_48 (Nat.le_of_ble_eq_true rfl) (Nat.le_of_ble_eq_true rfl) ⟨rfl, rfl, rfl⟩
    ·
      rw [if_pos hb53] at h
      refine zr_iconstv (v := 1) F zd_XSight_goesBefore_39 (by decide) ?_
      refine zr_pcn 40 rfl ?_
      refine zr_goto F 44 zd_XSight_goesBefore_40 (by decide) ?_
      refine zr_icmp_eq F 49 zd_XSight_goesBefore_44 (by decide) (fun _ => ?_) (fun hq => absurd hq (by decide))
      refine zr_iload_n F zd_XSight_goesBefore_49 rfl ?_
      refine zr_if_eq F 82 zd_XSight_goesBefore_50 (by decide) (fun hq => absurd hq (by decide)) (fun _ => ?_)
      refine zr_aload_n F zd_XSight_goesBefore_53 rfl ?_
      obtain ⟨le55, hs54, h⟩ := zoS_s h
      obtain ⟨a56, ea56, h⟩ := zoB_s h
      refine zr_get F 9 9 zd_XSight_goesBefore_54 (zW_o hs54 (by decide)) rfl (by decide) zw_382 rfl (by rfl) ?_
      refine zr_tor ea56 ?_
      refine zr_iload_n F zd_XSight_goesBefore_57 rfl ?_
      obtain ⟨t60, le58, hs57, h⟩ := zoR_s h
      obtain ⟨hi59, h⟩ := zoI_s h
      obtain ⟨a61, ea61, h⟩ := zoB_s h
      refine zr_aaldW F zd_XSight_goesBefore_58 hs57 hi59 ea61 ?_
      refine zr_pcn 59 rfl ?_
      refine zr_bipushv (v := 11) F zd_XSight_goesBefore_59 (by decide) ?_
      obtain ⟨le63, hs62, h⟩ := zoS_s h
      obtain ⟨hi64, h⟩ := zoI_s h
      refine zr_iald F zd_XSight_goesBefore_61 (zW_a0 hs62) hi64 ?_
      refine zr_aload_n F zd_XSight_goesBefore_62 rfl ?_
      obtain ⟨le66, hs65, h⟩ := zoS_s h
      obtain ⟨a67, ea67, h⟩ := zoB_s h
      refine zr_get F 9 9 zd_XSight_goesBefore_63 (zW_o hs65 (by decide)) rfl (by decide) zw_382 rfl (by rfl) ?_
      refine zr_tor ea67 ?_
      refine zr_iload_n F zd_XSight_goesBefore_66 rfl ?_
      obtain ⟨t71, le69, hs68, h⟩ := zoR_s h
      obtain ⟨hi70, h⟩ := zoI_s h
      obtain ⟨a72, ea72, h⟩ := zoB_s h
      refine zr_aaldW F zd_XSight_goesBefore_67 hs68 hi70 ea72 ?_
      refine zr_bipushv (v := 11) F zd_XSight_goesBefore_68 (by decide) ?_
      obtain ⟨le74, hs73, h⟩ := zoS_s h
      obtain ⟨hi75, h⟩ := zoI_s h
      refine zr_iald F zd_XSight_goesBefore_70 (zW_a0 hs73) hi75 ?_
      refine zr_pcn 71 rfl ?_
      refine zr_icmp_ge F 78 zd_XSight_goesBefore_71 (by decide) (fun hb76 => ?_) (fun hb76 => ?_)
      ·
        rw [if_pos hb76] at h
        refine zr_iconstv (v := 0) F zd_XSight_goesBefore_78 (by decide) ?_
        refine zr_goto F 108 zd_XSight_goesBefore_79 (by decide) ?_
        obtain rfl := Option.some.inj h
        exact zr_zret F hr rfl zd_XSight_goesBefore_108 (Nat.le_of_ble_eq_true rfl) (Nat.le_of_ble_eq_true rfl) ⟨rfl, rfl, rfl⟩
      ·
        rw [if_neg hb76] at h
        refine zr_iconstv (v := 1) F zd_XSight_goesBefore_74 (by decide) ?_
        refine zr_goto F 108 zd_XSight_goesBefore_75 (by decide) ?_
        obtain rfl := Option.some.inj h
        exact zr_zret F hr rfl zd_XSight_goesBefore_108 (Nat.le_of_ble_eq_true rfl) (Nat.le_of_ble_eq_true rfl) ⟨rfl, rfl, rfl⟩
abbrev zb_XSight_nodeNumber : ByteArray := prog_10_method_7_code
def zy_XSight_nodeNumber : MethodName := ⟨"OrreryBox$Sight", "nodeNumber", "()I"⟩
theorem zc_XSight_nodeNumber : Cond.code zy_XSight_nodeNumber zb_XSight_nodeNumber 1 (some .int) ∈ gw := gw_t 891 (by decide +kernel) rfl
theorem zq_XSight_nodeNumber : zy_XSight_nodeNumber.cls ≠ "java/lang/invoke/MethodHandle" ∧ zy_XSight_nodeNumber.cls ≠ "java/lang/invoke/VarHandle" ∧ (parseMethodDescriptor zy_XSight_nodeNumber.desc).map (fun d => d.parameters.length) = some 0 := by decide +kernel
theorem zd_XSight_nodeNumber_0 : decode zb_XSight_nodeNumber 0 = .ok (.aload_n 0, 1) := by decide +kernel
theorem zd_XSight_nodeNumber_1 : decode zb_XSight_nodeNumber 1 = .ok (.getfield 33, 3) := by decide +kernel
theorem zd_XSight_nodeNumber_4 : decode zb_XSight_nodeNumber 4 = .ok (.aload_n 0, 1) := by decide +kernel
theorem zd_XSight_nodeNumber_5 : decode zb_XSight_nodeNumber 5 = .ok (.getfield 56, 3) := by decide +kernel
theorem zd_XSight_nodeNumber_8 : decode zb_XSight_nodeNumber 8 = .ok (.iaload, 1) := by decide +kernel
theorem zd_XSight_nodeNumber_9 : decode zb_XSight_nodeNumber 9 = .ok (.ireturn, 1) := by decide +kernel
def F_XSight_nodeNumber (sh : zSh) (mm : zMem) (o : Nat) : Option (Int32 × zMem) := zoS (sh o) 9 (fun le2 => Option.bind (mm.2.2 o 10) (fun a3 => zoS (sh o) 9 (fun le5 => zoL (mm.1 o 12) (fun i6 => zoS (sh a3) 100 (fun le8 => if (i6 : Int32) < 0 ∨ le8 ≤ (i6 : Int32).toNatClampNeg then none else some ((mm.1 a3 (i6 : Int32).toNatClampNeg), mm))))))
set_option maxHeartbeats 4000000 in
set_option maxRecDepth 100000 in
theorem k_XSight_nodeNumber (l : Launch) (D : va_G) (tA : Nat → ClassId) (b : Nat) (sh : zSh) (n : Nat) {mm : zMem} {o : Nat} {r : (Int32 × zMem)} (h : F_XSight_nodeNumber sh mm o = some r) : zM l D tA b zy_XSight_nodeNumber zb_XSight_nodeNumber 1 (some .int) 0 0 0 0 [.ref (b + o)] (zW tA b sh mm) n (zE (some (.int (r.1))) (zW tA b sh r.2) n) := by
  unfold F_XSight_nodeNumber at h
  refine zM_of (own := "OrreryBox$Sight") (plainFor_of_name (by decide)) rfl (Nat.le_of_ble_eq_true rfl) (fun p e s m below meth c F hr hin hH => ?_)
  refine zr_aload_n F zd_XSight_nodeNumber_0 rfl ?_
  obtain ⟨le2, hs1, h⟩ := zoS_s h
  obtain ⟨a3, ea3, h⟩ := zoB_s h
  refine zr_get F 9 10 zd_XSight_nodeNumber_1 (zW_o hs1 (by decide)) rfl (by decide) zw_383 rfl (by rfl) ?_
  refine zr_tor ea3 ?_
  refine zr_aload_n F zd_XSight_nodeNumber_4 rfl ?_
  obtain ⟨le5, hs4, h⟩ := zoS_s h
  refine zr_get F 9 12 zd_XSight_nodeNumber_5 (zW_o hs4 (by decide)) rfl (by decide) zw_385 rfl (by rfl) ?_
  obtain ⟨i6, ei6, h⟩ := zoL_s h
  rw [← ei6]
  obtain ⟨le8, hs7, h⟩ := zoS_s h
  obtain ⟨hi9, h⟩ := zoI_s h
  refine zr_iald F zd_XSight_nodeNumber_8 (zW_a0 hs7) hi9 ?_
  obtain rfl := Option.some.inj h
  exact zr_iret F hr zd_XSight_nodeNumber_9 (Nat.le_of_ble_eq_true rfl) (Nat.le_of_ble_eq_true rfl) ⟨rfl, rfl, rfl⟩
abbrev zb_XSight_materialNumber : ByteArray := prog_10_method_8_code
def zy_XSight_materialNumber : MethodName := ⟨"OrreryBox$Sight", "materialNumber", "()I"⟩
theorem zc_XSight_materialNumber : Cond.code zy_XSight_materialNumber zb_XSight_materialNumber 1 (some .int) ∈ gw := gw_t 749 (by decide +kernel) rfl
theorem zq_XSight_materialNumber : zy_XSight_materialNumber.cls ≠ "java/lang/invoke/MethodHandle" ∧ zy_XSight_materialNumber.cls ≠ "java/lang/invoke/VarHandle" ∧ (parseMethodDescriptor zy_XSight_materialNumber.desc).map (fun d => d.parameters.length) = some 0 := by decide +kernel
theorem zd_XSight_materialNumber_0 : decode zb_XSight_materialNumber 0 = .ok (.aload_n 0, 1) := by decide +kernel
theorem zd_XSight_materialNumber_1 : decode zb_XSight_materialNumber 1 = .ok (.getfield 49, 3) := by decide +kernel
theorem zd_XSight_materialNumber_4 : decode zb_XSight_materialNumber 4 = .ok (.getfield 129, 3) := by decide +kernel
theorem zd_XSight_materialNumber_7 : decode zb_XSight_materialNumber 7 = .ok (.aload_n 0, 1) := by decide +kernel
theorem zd_XSight_materialNumber_8 : decode zb_XSight_materialNumber 8 = .ok (.getfield 49, 3) := by decide +kernel
theorem zd_XSight_materialNumber_11 : decode zb_XSight_materialNumber 11 = .ok (.getfield 76, 3) := by decide +kernel
theorem zd_XSight_materialNumber_14 : decode zb_XSight_materialNumber 14 = .ok (.aload_n 0, 1) := by decide +kernel
theorem zd_XSight_materialNumber_15 : decode zb_XSight_materialNumber 15 = .ok (.getfield 33, 3) := by decide +kernel
theorem zd_XSight_materialNumber_18 : decode zb_XSight_materialNumber 18 = .ok (.aload_n 0, 1) := by decide +kernel
theorem zd_XSight_materialNumber_19 : decode zb_XSight_materialNumber 19 = .ok (.getfield 56, 3) := by decide +kernel
theorem zd_XSight_materialNumber_22 : decode zb_XSight_materialNumber 22 = .ok (.iaload, 1) := by decide +kernel
theorem zd_XSight_materialNumber_23 : decode zb_XSight_materialNumber 23 = .ok (.aaload, 1) := by decide +kernel
theorem zd_XSight_materialNumber_24 : decode zb_XSight_materialNumber 24 = .ok (.getfield 86, 3) := by decide +kernel
theorem zd_XSight_materialNumber_27 : decode zb_XSight_materialNumber 27 = .ok (.aaload, 1) := by decide +kernel
theorem zd_XSight_materialNumber_28 : decode zb_XSight_materialNumber 28 = .ok (.getfield 133, 3) := by decide +kernel
theorem zd_XSight_materialNumber_31 : decode zb_XSight_materialNumber 31 = .ok (.ireturn, 1) := by decide +kernel
theorem zw_294 : (Jvm.Cond.fieldLink "OrreryBox$Sight" (129 : Nat) "OrreryBox$Scene" "meshes" "[LOrreryBox$Mesh;") ∈ gw := gw_t 294 (by decide +kernel) rfl
theorem zw_296 : (Jvm.Cond.fieldLink "OrreryBox$Sight" (76 : Nat) "OrreryBox$Scene" "nodes" "[LOrreryBox$Node;") ∈ gw := gw_t 296 (by decide +kernel) rfl
theorem zw_217 : (Jvm.Cond.fieldLink "OrreryBox$Sight" (86 : Nat) "OrreryBox$Node" "mesh" "I") ∈ gw := gw_t 217 (by decide +kernel) rfl
theorem zw_177 : (Jvm.Cond.fieldLink "OrreryBox$Sight" (133 : Nat) "OrreryBox$Mesh" "material" "I") ∈ gw := gw_t 177 (by decide +kernel) rfl
def F_XSight_materialNumber (sh : zSh) (mm : zMem) (o : Nat) : Option (Int32 × zMem) := zoS (sh o) 9 (fun le2 => Option.bind (mm.2.2 o 7) (fun a3 => zoS (sh a3) 8 (fun le5 => Option.bind (mm.2.2 a3 3) (fun a6 => zoS (sh o) 9 (fun le8 => Option.bind (mm.2.2 o 7) (fun a9 => zoS (sh a9) 8 (fun le11 => Option.bind (mm.2.2 a9 4) (fun a12 => zoS (sh o) 9 (fun le14 => Option.bind (mm.2.2 o 10) (fun a15 => zoS (sh o) 9 (fun le17 => zoL (mm.1 o 12) (fun i18 => zoS (sh a15) 100 (fun le20 => if (i18 : Int32) < 0 ∨ le20 ≤ (i18 : Int32).toNatClampNeg then none else zoL (mm.1 a15 (i18 : Int32).toNatClampNeg) (fun i22 => zoR (sh a12) (fun t26 le24 => if (i22 : Int32) < 0 ∨ le24 ≤ (i22 : Int32).toNatClampNeg then none else Option.bind (mm.2.2 a12 (i22 : Int32).toNatClampNeg) (fun a27 => zoS (sh a27) 3 (fun le29 => zoL (mm.1 a27 1) (fun i30 => zoR (sh a6) (fun t34 le32 => if (i30 : Int32) < 0 ∨ le32 ≤ (i30 : Int32).toNatClampNeg then none else Option.bind (mm.2.2 a6 (i30 : Int32).toNatClampNeg) (fun a35 => zoS (sh a35) 2 (fun le37 => some ((mm.1 a35 0), mm))))))))))))))))))))))
set_option maxHeartbeats 4000000 in
set_option maxRecDepth 100000 in
theorem k_XSight_materialNumber (l : Launch) (D : va_G) (tA : Nat → ClassId) (b : Nat) (sh : zSh) (n : Nat) {mm : zMem} {o : Nat} {r : (Int32 × zMem)} (h : F_XSight_materialNumber sh mm o = some r) : zM l D tA b zy_XSight_materialNumber zb_XSight_materialNumber 1 (some .int) 0 0 0 0 [.ref (b + o)] (zW tA b sh mm) n (zE (some (.int (r.1))) (zW tA b sh r.2) n) := by
  unfold F_XSight_materialNumber at h
  refine zM_of (own := "OrreryBox$Sight") (plainFor_of_name (by decide)) rfl (Nat.le_of_ble_eq_true rfl) (fun p e s m below meth c F hr hin hH => ?_)
  refine zr_aload_n F zd_XSight_materialNumber_0 rfl ?_
  obtain ⟨le2, hs1, h⟩ := zoS_s h
  obtain ⟨a3, ea3, h⟩ := zoB_s h
  refine zr_get F 9 7 zd_XSight_materialNumber_1 (zW_o hs1 (by decide)) rfl (by decide) zw_380 rfl (by rfl) ?_
  refine zr_tor ea3 ?_
  obtain ⟨le5, hs4, h⟩ := zoS_s h
  obtain ⟨a6, ea6, h⟩ := zoB_s h
  refine zr_get F 8 3 zd_XSight_materialNumber_4 (zW_o hs4 (by decide)) rfl (by decide) zw_294 rfl (by rfl) ?_
  refine zr_tor ea6 ?_
  refine zr_aload_n F zd_XSight_materialNumber_7 rfl ?_
  obtain ⟨le8, hs7, h⟩ := zoS_s h
  obtain ⟨a9, ea9, h⟩ := zoB_s h
  refine zr_get F 9 7 zd_XSight_materialNumber_8 (zW_o hs7 (by decide)) rfl (by decide) zw_380 rfl (by rfl) ?_
  refine zr_tor ea9 ?_
  obtain ⟨le11, hs10, h⟩ := zoS_s h
  obtain ⟨a12, ea12, h⟩ := zoB_s h
  refine zr_get F 8 4 zd_XSight_materialNumber_11 (zW_o hs10 (by decide)) rfl (by decide) zw_296 rfl (by rfl) ?_
  refine zr_tor ea12 ?_
  refine zr_aload_n F zd_XSight_materialNumber_14 rfl ?_
  refine zr_pcn 15 rfl ?_
  obtain ⟨le14, hs13, h⟩ := zoS_s h
  obtain ⟨a15, ea15, h⟩ := zoB_s h
  refine zr_get F 9 10 zd_XSight_materialNumber_15 (zW_o hs13 (by decide)) rfl (by decide) zw_383 rfl (by rfl) ?_
  refine zr_tor ea15 ?_
  refine zr_aload_n F zd_XSight_materialNumber_18 rfl ?_
  obtain ⟨le17, hs16, h⟩ := zoS_s h
  refine zr_get F 9 12 zd_XSight_materialNumber_19 (zW_o hs16 (by decide)) rfl (by decide) zw_385 rfl (by rfl) ?_
  obtain ⟨i18, ei18, h⟩ := zoL_s h
  rw [← ei18]
  obtain ⟨le20, hs19, h⟩ := zoS_s h
  obtain ⟨hi21, h⟩ := zoI_s h
  refine zr_iald F zd_XSight_materialNumber_22 (zW_a0 hs19) hi21 ?_
  obtain ⟨i22, ei22, h⟩ := zoL_s h
  rw [← ei22]
  obtain ⟨t26, le24, hs23, h⟩ := zoR_s h
  obtain ⟨hi25, h⟩ := zoI_s h
  obtain ⟨a27, ea27, h⟩ := zoB_s h
  refine zr_aaldW F zd_XSight_materialNumber_23 hs23 hi25 ea27 ?_
  obtain ⟨le29, hs28, h⟩ := zoS_s h
  refine zr_get F 3 1 zd_XSight_materialNumber_24 (zW_o hs28 (by decide)) rfl (by decide) zw_217 rfl (by rfl) ?_
  obtain ⟨i30, ei30, h⟩ := zoL_s h
  rw [← ei30]
  obtain ⟨t34, le32, hs31, h⟩ := zoR_s h
  obtain ⟨hi33, h⟩ := zoI_s h
  obtain ⟨a35, ea35, h⟩ := zoB_s h
  refine zr_aaldW F zd_XSight_materialNumber_27 hs31 hi33 ea35 ?_
  obtain ⟨le37, hs36, h⟩ := zoS_s h
  refine zr_get F 2 0 zd_XSight_materialNumber_28 (zW_o hs36 (by decide)) rfl (by decide) zw_177 rfl (by rfl) ?_
  refine zr_pcn 31 rfl ?_
  obtain rfl := Option.some.inj h
  exact zr_iret F hr zd_XSight_materialNumber_31 (Nat.le_of_ble_eq_true rfl) (Nat.le_of_ble_eq_true rfl) ⟨rfl, rfl, rfl⟩
abbrev zb_XSight_lightOf : ByteArray := prog_10_method_12_code
def zy_XSight_lightOf : MethodName := ⟨"OrreryBox$Sight", "lightOf", "([I[II)I"⟩
theorem zc_XSight_lightOf : Cond.code zy_XSight_lightOf zb_XSight_lightOf 9 (some .int) ∈ gw := gw_t 713 (by decide +kernel) rfl
theorem zq_XSight_lightOf : zy_XSight_lightOf.cls ≠ "java/lang/invoke/MethodHandle" ∧ zy_XSight_lightOf.cls ≠ "java/lang/invoke/VarHandle" ∧ (parseMethodDescriptor zy_XSight_lightOf.desc).map (fun d => d.parameters.length) = some 3 := by decide +kernel
theorem zd_XSight_lightOf_0 : decode zb_XSight_lightOf 0 = .ok (.lconst 0, 1) := by decide +kernel
theorem zd_XSight_lightOf_1 : decode zb_XSight_lightOf 1 = .ok (.lstore 4, 2) := by decide +kernel
theorem zd_XSight_lightOf_3 : decode zb_XSight_lightOf 3 = .ok (.iconst 0, 1) := by decide +kernel
theorem zd_XSight_lightOf_4 : decode zb_XSight_lightOf 4 = .ok (.istore 6, 2) := by decide +kernel
theorem zd_XSight_lightOf_6 : decode zb_XSight_lightOf 6 = .ok (.iload 6, 2) := by decide +kernel
theorem zd_XSight_lightOf_8 : decode zb_XSight_lightOf 8 = .ok (.iconst 3, 1) := by decide +kernel
theorem zd_XSight_lightOf_9 : decode zb_XSight_lightOf 9 = .ok (.if_icmp .ge 58, 3) := by decide +kernel
theorem zd_XSight_lightOf_12 : decode zb_XSight_lightOf 12 = .ok (.aload_n 1, 1) := by decide +kernel
theorem zd_XSight_lightOf_13 : decode zb_XSight_lightOf 13 = .ok (.iload 6, 2) := by decide +kernel
theorem zd_XSight_lightOf_15 : decode zb_XSight_lightOf 15 = .ok (.aload_n 2, 1) := by decide +kernel
theorem zd_XSight_lightOf_16 : decode zb_XSight_lightOf 16 = .ok (.iload_n 3, 1) := by decide +kernel
theorem zd_XSight_lightOf_17 : decode zb_XSight_lightOf 17 = .ok (.iaload, 1) := by decide +kernel
theorem zd_XSight_lightOf_18 : decode zb_XSight_lightOf 18 = .ok (.i2l, 1) := by decide +kernel
theorem zd_XSight_lightOf_19 : decode zb_XSight_lightOf 19 = .ok (.aload_n 2, 1) := by decide +kernel
theorem zd_XSight_lightOf_20 : decode zb_XSight_lightOf 20 = .ok (.iload_n 3, 1) := by decide +kernel
theorem zd_XSight_lightOf_21 : decode zb_XSight_lightOf 21 = .ok (.iconst 1, 1) := by decide +kernel
theorem zd_XSight_lightOf_22 : decode zb_XSight_lightOf 22 = .ok (.iadd, 1) := by decide +kernel
theorem zd_XSight_lightOf_23 : decode zb_XSight_lightOf 23 = .ok (.iaload, 1) := by decide +kernel
theorem zd_XSight_lightOf_24 : decode zb_XSight_lightOf 24 = .ok (.i2l, 1) := by decide +kernel
theorem zd_XSight_lightOf_25 : decode zb_XSight_lightOf 25 = .ok (.aload_n 2, 1) := by decide +kernel
theorem zd_XSight_lightOf_26 : decode zb_XSight_lightOf 26 = .ok (.iload_n 3, 1) := by decide +kernel
theorem zd_XSight_lightOf_27 : decode zb_XSight_lightOf 27 = .ok (.iconst 2, 1) := by decide +kernel
theorem zd_XSight_lightOf_28 : decode zb_XSight_lightOf 28 = .ok (.iadd, 1) := by decide +kernel
theorem zd_XSight_lightOf_29 : decode zb_XSight_lightOf 29 = .ok (.iaload, 1) := by decide +kernel
theorem zd_XSight_lightOf_30 : decode zb_XSight_lightOf 30 = .ok (.i2l, 1) := by decide +kernel
theorem zd_XSight_lightOf_31 : decode zb_XSight_lightOf 31 = .ok (.invokestatic 113, 3) := by decide +kernel
theorem zd_XSight_lightOf_34 : decode zb_XSight_lightOf 34 = .ok (.lstore 7, 2) := by decide +kernel
theorem zd_XSight_lightOf_36 : decode zb_XSight_lightOf 36 = .ok (.lload 4, 2) := by decide +kernel
theorem zd_XSight_lightOf_38 : decode zb_XSight_lightOf 38 = .ok (.lload 7, 2) := by decide +kernel
theorem zd_XSight_lightOf_40 : decode zb_XSight_lightOf 40 = .ok (.invokestatic 117, 3) := by decide +kernel
theorem zd_XSight_lightOf_43 : decode zb_XSight_lightOf 43 = .ok (.i2l, 1) := by decide +kernel
theorem zd_XSight_lightOf_44 : decode zb_XSight_lightOf 44 = .ok (.aload_n 0, 1) := by decide +kernel
theorem zd_XSight_lightOf_45 : decode zb_XSight_lightOf 45 = .ok (.getfield 49, 3) := by decide +kernel
theorem zd_XSight_lightOf_48 : decode zb_XSight_lightOf 48 = .ok (.getfield 177, 3) := by decide +kernel
theorem zd_XSight_lightOf_51 : decode zb_XSight_lightOf 51 = .ok (.iload 6, 2) := by decide +kernel
theorem zd_XSight_lightOf_53 : decode zb_XSight_lightOf 53 = .ok (.iaload, 1) := by decide +kernel
theorem zd_XSight_lightOf_54 : decode zb_XSight_lightOf 54 = .ok (.i2l, 1) := by decide +kernel
theorem zd_XSight_lightOf_55 : decode zb_XSight_lightOf 55 = .ok (.invokestatic 180, 3) := by decide +kernel
theorem zd_XSight_lightOf_58 : decode zb_XSight_lightOf 58 = .ok (.ladd, 1) := by decide +kernel
theorem zd_XSight_lightOf_59 : decode zb_XSight_lightOf 59 = .ok (.lstore 4, 2) := by decide +kernel
theorem zd_XSight_lightOf_61 : decode zb_XSight_lightOf 61 = .ok (.iinc 6 1, 3) := by decide +kernel
theorem zd_XSight_lightOf_64 : decode zb_XSight_lightOf 64 = .ok (.goto (-58), 3) := by decide +kernel
theorem zd_XSight_lightOf_67 : decode zb_XSight_lightOf 67 = .ok (.ldc2_w 184, 3) := by decide +kernel
theorem zd_XSight_lightOf_70 : decode zb_XSight_lightOf 70 = .ok (.aload_n 0, 1) := by decide +kernel
theorem zd_XSight_lightOf_71 : decode zb_XSight_lightOf 71 = .ok (.getfield 49, 3) := by decide +kernel
theorem zd_XSight_lightOf_74 : decode zb_XSight_lightOf 74 = .ok (.getfield 177, 3) := by decide +kernel
theorem zd_XSight_lightOf_77 : decode zb_XSight_lightOf 77 = .ok (.iconst 3, 1) := by decide +kernel
theorem zd_XSight_lightOf_78 : decode zb_XSight_lightOf 78 = .ok (.iaload, 1) := by decide +kernel
theorem zd_XSight_lightOf_79 : decode zb_XSight_lightOf 79 = .ok (.i2l, 1) := by decide +kernel
theorem zd_XSight_lightOf_80 : decode zb_XSight_lightOf 80 = .ok (.lload 4, 2) := by decide +kernel
theorem zd_XSight_lightOf_82 : decode zb_XSight_lightOf 82 = .ok (.lconst 0, 1) := by decide +kernel
theorem zd_XSight_lightOf_83 : decode zb_XSight_lightOf 83 = .ok (.invokestatic 186, 3) := by decide +kernel
theorem zd_XSight_lightOf_86 : decode zb_XSight_lightOf 86 = .ok (.ladd, 1) := by decide +kernel
theorem zd_XSight_lightOf_87 : decode zb_XSight_lightOf 87 = .ok (.invokestatic 191, 3) := by decide +kernel
theorem zd_XSight_lightOf_90 : decode zb_XSight_lightOf 90 = .ok (.l2i, 1) := by decide +kernel
theorem zd_XSight_lightOf_91 : decode zb_XSight_lightOf 91 = .ok (.ireturn, 1) := by decide +kernel
theorem zw_308 : (Jvm.Cond.fieldLink "OrreryBox$Sight" (177 : Nat) "OrreryBox$Scene" "lamp" "[I") ∈ gw := gw_t 308 (by decide +kernel) rfl
theorem zw_714 : (Jvm.Cond.methodLink "OrreryBox$Sight" (180 : Nat) ({ cls := "OrreryBox$Fixed", name := "mul", desc := "(JJ)J" } : Jvm.MethodName)) ∈ gw := gw_t 714 (by decide +kernel) rfl
theorem zs_XSight_180 : zwS "OrreryBox$Sight" 180 zy_XFixed_mul zb_XFixed_mul 4 (some .long) := ⟨zw_714, zw_578, zw_27, zc_XFixed_mul⟩
def L_XSight_lightOf_6 (sh : zSh) (fuel : Nat) (v0 : Nat) (v1 : Nat) (v2 : Nat) (v3 : Int32) (v4 : Int64) (v6 : Int32) (mm : zMem) : Option (Nat × Nat × Nat × Int32 × Int64 × Int32 × zMem) := match fuel with
  | 0 => none
  | fu + 1 => (if 3 ≤ v6 then some (v0, v1, v2, v3, v4, v6, mm) else zoS (sh v2) 100 (fun le3 => if (v3 : Int32) < 0 ∨ le3 ≤ (v3 : Int32).toNatClampNeg then none else zoL (v3 + 1) (fun i5 => zoS (sh v2) 100 (fun le7 => if (i5 : Int32) < 0 ∨ le7 ≤ (i5 : Int32).toNatClampNeg then none else zoL (v3 + 2) (fun i9 => zoS (sh v2) 100 (fun le11 => if (i9 : Int32) < 0 ∨ le11 ≤ (i9 : Int32).toNatClampNeg then none else zoL (((mm.1 v2 (v3 : Int32).toNatClampNeg) : Int32).toInt64) (fun x13 => zoL (((mm.1 v2 (i5 : Int32).toNatClampNeg) : Int32).toInt64) (fun x14 => zoL (((mm.1 v2 (i9 : Int32).toNatClampNeg) : Int32).toInt64) (fun x15 => Option.bind (F_XFixed_along sh mm v1 v6 x13 x14 x15) (fun p16 => zoS (sh v0) 9 (fun le19 => Option.bind ((p16.2).2.2 v0 7) (fun a20 => zoS (sh a20) 8 (fun le22 => Option.bind ((p16.2).2.2 a20 7) (fun a23 => zoS (sh a23) 100 (fun le25 => if (v6 : Int32) < 0 ∨ le25 ≤ (v6 : Int32).toNatClampNeg then none else zoL (((zx_bound (p16.1)) : Int32).toInt64) (fun x27 => zoL ((((p16.2).1 a23 (v6 : Int32).toNatClampNeg) : Int32).toInt64) (fun x28 => zoL (v4 + (zx_mul x27 x28)) (fun x30 => L_XSight_lightOf_6 sh fu v0 v1 v2 v3 x30 (v6 + 1) (p16.2)))))))))))))))))))
set_option maxHeartbeats 4000000 in
set_option maxRecDepth 100000 in
theorem lp_XSight_lightOf_6 {p : Program} {l : Launch} {e : Env} {s : State} {m : MethodId} {args : Array Value} {below : List Frame} {meth : Method} {c : Code} {D : va_G} {tA : Nat → ClassId} {b n : Nat} {post : Option Value → zV → Nat → Prop} {sh : zSh} (F : zF p s m args meth c zb_XSight_lightOf 9 "OrreryBox$Sight" D tA b) : ∀ (fuel : Nat) (v0 : Nat) (v1 : Nat) (v2 : Nat) (v3 : Int32) (v4 : Int64) (v6 : Int32) (mm : zMem) (r : Nat × Nat × Nat × Int32 × Int64 × Int32 × zMem), L_XSight_lightOf_6 sh fuel v0 v1 v2 v3 v4 v6 mm = some r → (Z p l e { frames := 2, cells := 0, slots := 0, locals := 50 } s m args below meth c D b 9 (MQ below (zQ D b post) args s 0 0 (fun q => b ≤ q)) (zW tA b sh r.2.2.2.2.2.2) n 0 0 67 [(0, .ref (b + (r.1))), (1, .ref (b + (r.2.1))), (2, .ref (b + (r.2.2.1))), (3, .int (r.2.2.2.1)), (4, .long (r.2.2.2.2.1)), (6, .int (r.2.2.2.2.2.1))] []) → Z p l e { frames := 2, cells := 0, slots := 0, locals := 50 } s m args below meth c D b 9 (MQ below (zQ D b post) args s 0 0 (fun q => b ≤ q)) (zW tA b sh mm) n 0 0 6 [(0, .ref (b + v0)), (1, .ref (b + v1)), (2, .ref (b + v2)), (3, .int v3), (4, .long v4), (6, .int v6)] [] := by
  intro fuel
  induction fuel with
  | zero =>
    intro v0 v1 v2 v3 v4 v6 mm r h
    cases h
  | succ fu ih =>
    intro v0 v1 v2 v3 v4 v6 mm r h hx0
    rw [L_XSight_lightOf_6] at h
    refine zr_iload F zd_XSight_lightOf_6 rfl ?_
    refine zr_iconstv (v := 3) F zd_XSight_lightOf_8 (by decide) ?_
    refine zr_icmp_ge F 67 zd_XSight_lightOf_9 (by decide) (fun hb1 => ?_) (fun hb1 => ?_)
    ·
      rw [if_pos hb1] at h
      obtain rfl := Option.some.inj h
      refine zr_loc (L' := [(0, .ref (b + v0)), (1, .ref (b + v1)), (2, .ref (b + v2)), (3, .int v3), (4, .long v4), (6, .int v6)]) ⟨rfl, rfl, rfl, rfl, rfl, rfl, trivial⟩ ?_
      exact hx0 
    ·
      rw [if_neg hb1] at h
      refine zr_pcn 12 rfl ?_
      refine zr_aload_n F zd_XSight_lightOf_12 rfl ?_
      refine zr_iload F zd_XSight_lightOf_13 rfl ?_
      refine zr_aload_n F zd_XSight_lightOf_15 rfl ?_
      refine zr_iload_n F zd_XSight_lightOf_16 rfl ?_
      obtain ⟨le3, hs2, h⟩ := zoS_s h
      obtain ⟨hi4, h⟩ := zoI_s h
      refine zr_iald F zd_XSight_lightOf_17 (zW_a0 hs2) hi4 ?_
      refine zr_i2l F zd_XSight_lightOf_18 ?_
      refine zr_aload_n F zd_XSight_lightOf_19 rfl ?_
      refine zr_iload_n F zd_XSight_lightOf_20 rfl ?_
      refine zr_pcn 21 rfl ?_
      refine zr_iconstv (v := 1) F zd_XSight_lightOf_21 (by decide) ?_
      refine zr_iadd F zd_XSight_lightOf_22 ?_
      obtain ⟨i5, ei5, h⟩ := zoL_s h
      rw [← ei5]
      obtain ⟨le7, hs6, h⟩ := zoS_s h
      obtain ⟨hi8, h⟩ := zoI_s h
      refine zr_iald F zd_XSight_lightOf_23 (zW_a0 hs6) hi8 ?_
      refine zr_i2l F zd_XSight_lightOf_24 ?_
      refine zr_aload_n F zd_XSight_lightOf_25 rfl ?_
      refine zr_iload_n F zd_XSight_lightOf_26 rfl ?_
      refine zr_iconstv (v := 2) F zd_XSight_lightOf_27 (by decide) ?_
      refine zr_iadd F zd_XSight_lightOf_28 ?_
      refine zr_pcn 29 rfl ?_
      obtain ⟨i9, ei9, h⟩ := zoL_s h
      rw [← ei9]
      obtain ⟨le11, hs10, h⟩ := zoS_s h
      obtain ⟨hi12, h⟩ := zoI_s h
      refine zr_iald F zd_XSight_lightOf_29 (zW_a0 hs10) hi12 ?_
      refine zr_i2l F zd_XSight_lightOf_30 ?_
      obtain ⟨x13, ex13, h⟩ := zoL_s h
      rw [← ex13]
      obtain ⟨x14, ex14, h⟩ := zoL_s h
      rw [← ex14]
      obtain ⟨x15, ex15, h⟩ := zoL_s h
      rw [← ex15]
      obtain ⟨p16, ep16, h⟩ := zoB_s h
      refine zr_callS1 F (k_XFixed_along l D tA b sh _ ep16) zd_XSight_lightOf_31 zs_XSight_113 zq_XFixed_along rfl rfl ⟨(Nat.le_of_ble_eq_true rfl), (Nat.le_of_ble_eq_true rfl)⟩ (Nat.le_of_ble_eq_true rfl) ⟨(Nat.le_of_ble_eq_true rfl), (Nat.le_of_ble_eq_true rfl)⟩ ?_
      refine zr_lstore F zd_XSight_lightOf_34 (by decide) ?_
      refine zr_lload F zd_XSight_lightOf_36 rfl ?_
      refine zr_lload F zd_XSight_lightOf_38 rfl ?_
      refine zr_callS1 F (c_XFixed_bound l D tA b _ _ (p16.1)) zd_XSight_lightOf_40 zs_XSight_117 zq_XFixed_bound rfl rfl ⟨(Nat.le_of_ble_eq_true rfl), (Nat.le_of_ble_eq_true rfl)⟩ (Nat.le_of_ble_eq_true rfl) ⟨(Nat.le_of_ble_eq_true rfl), (Nat.le_of_ble_eq_true rfl)⟩ ?_
      refine zr_i2l F zd_XSight_lightOf_43 ?_
      refine zr_pcn 44 rfl ?_
      refine zr_aload_n F zd_XSight_lightOf_44 rfl ?_
      obtain ⟨le19, hs18, h⟩ := zoS_s h
      obtain ⟨a20, ea20, h⟩ := zoB_s h
      refine zr_get F 9 7 zd_XSight_lightOf_45 (zW_o hs18 (by decide)) rfl (by decide) zw_380 rfl (by rfl) ?_
      refine zr_tor ea20 ?_
      obtain ⟨le22, hs21, h⟩ := zoS_s h
      obtain ⟨a23, ea23, h⟩ := zoB_s h
      refine zr_get F 8 7 zd_XSight_lightOf_48 (zW_o hs21 (by decide)) rfl (by decide) zw_308 rfl (by rfl) ?_
      refine zr_tor ea23 ?_
      refine zr_iload F zd_XSight_lightOf_51 rfl ?_
      obtain ⟨le25, hs24, h⟩ := zoS_s h
      obtain ⟨hi26, h⟩ := zoI_s h
      refine zr_iald F zd_XSight_lightOf_53 (zW_a0 hs24) hi26 ?_
      refine zr_i2l F zd_XSight_lightOf_54 ?_
      obtain ⟨x27, ex27, h⟩ := zoL_s h
      rw [← ex27]
      obtain ⟨x28, ex28, h⟩ := zoL_s h
      rw [← ex28]
      refine zr_callS1 F (c_XFixed_mul l D tA b _ _ x27 x28) zd_XSight_lightOf_55 zs_XSight_180 zq_XFixed_mul rfl rfl ⟨(Nat.le_of_ble_eq_true rfl), (Nat.le_of_ble_eq_true rfl)⟩ (Nat.le_of_ble_eq_true rfl) ⟨(Nat.le_of_ble_eq_true rfl), (Nat.le_of_ble_eq_true rfl)⟩ ?_
      refine zr_ladd F zd_XSight_lightOf_58 ?_
      refine zr_pcn 59 rfl ?_
      obtain ⟨x30, ex30, h⟩ := zoL_s h
      rw [← ex30]
      refine zr_lstore F zd_XSight_lightOf_59 (by decide) ?_
      refine zr_iinc (v := (v6 + 1)) F zd_XSight_lightOf_61 rfl rfl (by decide) ?_
      refine zr_goto F 6 zd_XSight_lightOf_64 (by decide) ?_
      refine zr_loc (L' := [(0, .ref (b + v0)), (1, .ref (b + v1)), (2, .ref (b + v2)), (3, .int v3), (4, .long x30), (6, .int (v6 + 1))]) ⟨rfl, rfl, rfl, rfl, rfl, rfl, trivial⟩ ?_
      exact ih _ _ _ _ _ _ _ _ h hx0
theorem zw_715 : (Jvm.Cond.constantLong "OrreryBox$Sight" (184 : Nat) (65536 : Int64)) ∈ gw := gw_t 715 (by decide +kernel) rfl
theorem zw_716 : (Jvm.Cond.methodLink "OrreryBox$Sight" (186 : Nat) ({ cls := "java/lang/Math", name := "max", desc := "(JJ)J" } : Jvm.MethodName)) ∈ gw := gw_t 716 (by decide +kernel) rfl
theorem zs_XSight_186 : zwS "OrreryBox$Sight" 186 zy_JMath_max2 zb_JMath_max2 4 (some .long) := ⟨zw_716, zw_655, zw_4, zc_JMath_max2⟩
theorem zw_717 : (Jvm.Cond.methodLink "OrreryBox$Sight" (191 : Nat) ({ cls := "java/lang/Math", name := "min", desc := "(JJ)J" } : Jvm.MethodName)) ∈ gw := gw_t 717 (by decide +kernel) rfl
theorem zs_XSight_191 : zwS "OrreryBox$Sight" 191 zy_JMath_min2 zb_JMath_min2 4 (some .long) := ⟨zw_717, zw_652, zw_4, zc_JMath_min2⟩
def F_XSight_lightOf (sh : zSh) (mm : zMem) (o : Nat) (x0_ : Nat) (x1_ : Nat) (x2_ : Int32) : Option (Int32 × zMem) := Option.bind (L_XSight_lightOf_6 sh zfuel o x0_ x1_ x2_ 0 0 mm) (fun q31 => zoS (sh (q31.1)) 9 (fun le33 => Option.bind ((q31.2.2.2.2.2.2).2.2 (q31.1) 7) (fun a34 => zoS (sh a34) 8 (fun le36 => Option.bind ((q31.2.2.2.2.2.2).2.2 a34 7) (fun a37 => zoS (sh a37) 100 (fun le39 => if (3 : Int32) < 0 ∨ le39 ≤ (3 : Int32).toNatClampNeg then none else zoL (((((q31.2.2.2.2.2.2).1 a37 (3 : Int32).toNatClampNeg) : Int32).toInt64) + (zx_maxl (q31.2.2.2.2.1) 0)) (fun x42 => some ((((zx_minl 65536 x42) : Int64).toInt32), q31.2.2.2.2.2.2))))))))
set_option maxHeartbeats 4000000 in
set_option maxRecDepth 100000 in
theorem k_XSight_lightOf (l : Launch) (D : va_G) (tA : Nat → ClassId) (b : Nat) (sh : zSh) (n : Nat) {mm : zMem} {o : Nat} {x0_ : Nat} {x1_ : Nat} {x2_ : Int32} {r : (Int32 × zMem)} (h : F_XSight_lightOf sh mm o x0_ x1_ x2_ = some r) : zM l D tA b zy_XSight_lightOf zb_XSight_lightOf 9 (some .int) 2 50 0 0 [.ref (b + o), .ref (b + x0_), .ref (b + x1_), .int x2_] (zW tA b sh mm) n (zE (some (.int (r.1))) (zW tA b sh r.2) n) := by
  unfold F_XSight_lightOf at h
  refine zM_of (own := "OrreryBox$Sight") (plainFor_of_name (by decide)) rfl (Nat.le_of_ble_eq_true rfl) (fun p e s m below meth c F hr hin hH => ?_)
  refine zr_lconstv (v := 0) F zd_XSight_lightOf_0 (by decide) ?_
  refine zr_lstore F zd_XSight_lightOf_1 (by decide) ?_
  refine zr_iconstv (v := 0) F zd_XSight_lightOf_3 (by decide) ?_
  refine zr_istore F zd_XSight_lightOf_4 (by decide) ?_
  obtain ⟨q31, eq31, h⟩ := zoB_s h
  refine zr_loc (L' := [(0, .ref (b + o)), (1, .ref (b + x0_)), (2, .ref (b + x1_)), (3, .int x2_), (4, .long 0), (6, .int 0)]) ⟨rfl, rfl, rfl, rfl, rfl, rfl, trivial⟩ ?_
  refine lp_XSight_lightOf_6 F _ _ _ _ _ _ _ _ _ eq31 ?_
  ·
    refine zr_ldc2 F zd_XSight_lightOf_67 zw_715 ?_
    refine zr_aload_n F zd_XSight_lightOf_70 rfl ?_
    obtain ⟨le33, hs32, h⟩ := zoS_s h
    obtain ⟨a34, ea34, h⟩ := zoB_s h
    refine zr_get F 9 7 zd_XSight_lightOf_71 (zW_o hs32 (by decide)) rfl (by decide) zw_380 rfl (by rfl) ?_
    refine zr_tor ea34 ?_
    obtain ⟨le36, hs35, h⟩ := zoS_s h
    obtain ⟨a37, ea37, h⟩ := zoB_s h
    refine zr_get F 8 7 zd_XSight_lightOf_74 (zW_o hs35 (by decide)) rfl (by decide) zw_308 rfl (by rfl) ?_
    refine zr_tor ea37 ?_
    refine zr_iconstv (v := 3) F zd_XSight_lightOf_77 (by decide) ?_
    refine zr_pcn 78 rfl ?_
    obtain ⟨le39, hs38, h⟩ := zoS_s h
    obtain ⟨hi40, h⟩ := zoI_s h
    refine zr_iald F zd_XSight_lightOf_78 (zW_a0 hs38) hi40 ?_
    refine zr_i2l F zd_XSight_lightOf_79 ?_
    refine zr_lload F zd_XSight_lightOf_80 rfl ?_
    refine zr_lconstv (v := 0) F zd_XSight_lightOf_82 (by decide) ?_
    refine zr_callS1 F (c_JMath_max2 l D tA b _ _ (q31.2.2.2.2.1) 0) zd_XSight_lightOf_83 zs_XSight_186 zq_JMath_max2 rfl rfl ⟨(Nat.le_of_ble_eq_true rfl), (Nat.le_of_ble_eq_true rfl)⟩ (Nat.le_of_ble_eq_true rfl) ⟨(Nat.le_of_ble_eq_true rfl), (Nat.le_of_ble_eq_true rfl)⟩ ?_
    refine zr_ladd F zd_XSight_lightOf_86 ?_
    obtain ⟨x42, ex42, h⟩ := zoL_s h
    rw [← ex42]
    refine zr_callS1 F (c_JMath_min2 l D tA b _ _ 65536 x42) zd_XSight_lightOf_87 zs_XSight_191 zq_JMath_min2 rfl rfl ⟨(Nat.le_of_ble_eq_true rfl), (Nat.le_of_ble_eq_true rfl)⟩ (Nat.le_of_ble_eq_true rfl) ⟨(Nat.le_of_ble_eq_true rfl), (Nat.le_of_ble_eq_true rfl)⟩ ?_
    refine zr_l2i F zd_XSight_lightOf_90 ?_
    refine zr_pcn 91 rfl ?_
    obtain rfl := Option.some.inj h
    exact zr_iret F hr zd_XSight_lightOf_91 (Nat.le_of_ble_eq_true rfl) (Nat.le_of_ble_eq_true rfl) ⟨rfl, rfl, rfl⟩
abbrev zb_XSight_sideOf : ByteArray := prog_10_method_15_code
def zy_XSight_sideOf : MethodName := ⟨"OrreryBox$Sight", "sideOf", "(II)J"⟩
theorem zc_XSight_sideOf : Cond.code zy_XSight_sideOf zb_XSight_sideOf 9 (some .long) ∈ gw := gw_t 732 (by decide +kernel) rfl
theorem zq_XSight_sideOf : zy_XSight_sideOf.cls ≠ "java/lang/invoke/MethodHandle" ∧ zy_XSight_sideOf.cls ≠ "java/lang/invoke/VarHandle" ∧ (parseMethodDescriptor zy_XSight_sideOf.desc).map (fun d => d.parameters.length) = some 2 := by decide +kernel
theorem zd_XSight_sideOf_0 : decode zb_XSight_sideOf 0 = .ok (.aload_n 0, 1) := by decide +kernel
theorem zd_XSight_sideOf_1 : decode zb_XSight_sideOf 1 = .ok (.getfield 18, 3) := by decide +kernel
theorem zd_XSight_sideOf_4 : decode zb_XSight_sideOf 4 = .ok (.bipush 6, 2) := by decide +kernel
theorem zd_XSight_sideOf_6 : decode zb_XSight_sideOf 6 = .ok (.iload_n 2, 1) := by decide +kernel
theorem zd_XSight_sideOf_7 : decode zb_XSight_sideOf 7 = .ok (.imul, 1) := by decide +kernel
theorem zd_XSight_sideOf_8 : decode zb_XSight_sideOf 8 = .ok (.iconst 2, 1) := by decide +kernel
theorem zd_XSight_sideOf_9 : decode zb_XSight_sideOf 9 = .ok (.iadd, 1) := by decide +kernel
theorem zd_XSight_sideOf_10 : decode zb_XSight_sideOf 10 = .ok (.iaload, 1) := by decide +kernel
theorem zd_XSight_sideOf_11 : decode zb_XSight_sideOf 11 = .ok (.i2l, 1) := by decide +kernel
theorem zd_XSight_sideOf_12 : decode zb_XSight_sideOf 12 = .ok (.lstore_n 3, 1) := by decide +kernel
theorem zd_XSight_sideOf_13 : decode zb_XSight_sideOf 13 = .ok (.iload_n 1, 1) := by decide +kernel
theorem zd_XSight_sideOf_14 : decode zb_XSight_sideOf 14 = .ok (.ifCond .ne 9, 3) := by decide +kernel
theorem zd_XSight_sideOf_17 : decode zb_XSight_sideOf 17 = .ok (.lload_n 3, 1) := by decide +kernel
theorem zd_XSight_sideOf_18 : decode zb_XSight_sideOf 18 = .ok (.ldc2_w 220, 3) := by decide +kernel
theorem zd_XSight_sideOf_21 : decode zb_XSight_sideOf 21 = .ok (.lsub, 1) := by decide +kernel
theorem zd_XSight_sideOf_22 : decode zb_XSight_sideOf 22 = .ok (.lreturn, 1) := by decide +kernel
theorem zd_XSight_sideOf_23 : decode zb_XSight_sideOf 23 = .ok (.aload_n 0, 1) := by decide +kernel
theorem zd_XSight_sideOf_24 : decode zb_XSight_sideOf 24 = .ok (.getfield 49, 3) := by decide +kernel
theorem zd_XSight_sideOf_27 : decode zb_XSight_sideOf 27 = .ok (.getfield 102, 3) := by decide +kernel
theorem zd_XSight_sideOf_30 : decode zb_XSight_sideOf 30 = .ok (.bipush 6, 2) := by decide +kernel
theorem zd_XSight_sideOf_32 : decode zb_XSight_sideOf 32 = .ok (.iaload, 1) := by decide +kernel
theorem zd_XSight_sideOf_33 : decode zb_XSight_sideOf 33 = .ok (.i2l, 1) := by decide +kernel
theorem zd_XSight_sideOf_34 : decode zb_XSight_sideOf 34 = .ok (.aload_n 0, 1) := by decide +kernel
theorem zd_XSight_sideOf_35 : decode zb_XSight_sideOf 35 = .ok (.getfield 18, 3) := by decide +kernel
theorem zd_XSight_sideOf_38 : decode zb_XSight_sideOf 38 = .ok (.bipush 6, 2) := by decide +kernel
theorem zd_XSight_sideOf_40 : decode zb_XSight_sideOf 40 = .ok (.iload_n 2, 1) := by decide +kernel
theorem zd_XSight_sideOf_41 : decode zb_XSight_sideOf 41 = .ok (.imul, 1) := by decide +kernel
theorem zd_XSight_sideOf_42 : decode zb_XSight_sideOf 42 = .ok (.iload_n 1, 1) := by decide +kernel
theorem zd_XSight_sideOf_43 : decode zb_XSight_sideOf 43 = .ok (.iconst 3, 1) := by decide +kernel
theorem zd_XSight_sideOf_44 : decode zb_XSight_sideOf 44 = .ok (.if_icmp .ge 7, 3) := by decide +kernel
theorem zd_XSight_sideOf_47 : decode zb_XSight_sideOf 47 = .ok (.iconst 0, 1) := by decide +kernel
theorem zd_XSight_sideOf_48 : decode zb_XSight_sideOf 48 = .ok (.goto 4, 3) := by decide +kernel
theorem zd_XSight_sideOf_51 : decode zb_XSight_sideOf 51 = .ok (.iconst 1, 1) := by decide +kernel
theorem zd_XSight_sideOf_52 : decode zb_XSight_sideOf 52 = .ok (.iadd, 1) := by decide +kernel
theorem zd_XSight_sideOf_53 : decode zb_XSight_sideOf 53 = .ok (.iaload, 1) := by decide +kernel
theorem zd_XSight_sideOf_54 : decode zb_XSight_sideOf 54 = .ok (.i2l, 1) := by decide +kernel
theorem zd_XSight_sideOf_55 : decode zb_XSight_sideOf 55 = .ok (.lmul, 1) := by decide +kernel
theorem zd_XSight_sideOf_56 : decode zb_XSight_sideOf 56 = .ok (.lstore 5, 2) := by decide +kernel
theorem zd_XSight_sideOf_58 : decode zb_XSight_sideOf 58 = .ok (.iload_n 1, 1) := by decide +kernel
theorem zd_XSight_sideOf_59 : decode zb_XSight_sideOf 59 = .ok (.iconst 3, 1) := by decide +kernel
theorem zd_XSight_sideOf_60 : decode zb_XSight_sideOf 60 = .ok (.if_icmp .ge 10, 3) := by decide +kernel
theorem zd_XSight_sideOf_63 : decode zb_XSight_sideOf 63 = .ok (.aload_n 0, 1) := by decide +kernel
theorem zd_XSight_sideOf_64 : decode zb_XSight_sideOf 64 = .ok (.getfield 42, 3) := by decide +kernel
theorem zd_XSight_sideOf_67 : decode zb_XSight_sideOf 67 = .ok (.goto 7, 3) := by decide +kernel
theorem zd_XSight_sideOf_70 : decode zb_XSight_sideOf 70 = .ok (.aload_n 0, 1) := by decide +kernel
theorem zd_XSight_sideOf_71 : decode zb_XSight_sideOf 71 = .ok (.getfield 46, 3) := by decide +kernel
theorem zd_XSight_sideOf_74 : decode zb_XSight_sideOf 74 = .ok (.i2l, 1) := by decide +kernel
theorem zd_XSight_sideOf_75 : decode zb_XSight_sideOf 75 = .ok (.lload_n 3, 1) := by decide +kernel
theorem zd_XSight_sideOf_76 : decode zb_XSight_sideOf 76 = .ok (.lmul, 1) := by decide +kernel
theorem zd_XSight_sideOf_77 : decode zb_XSight_sideOf 77 = .ok (.lstore 7, 2) := by decide +kernel
theorem zd_XSight_sideOf_79 : decode zb_XSight_sideOf 79 = .ok (.iload_n 1, 1) := by decide +kernel
theorem zd_XSight_sideOf_80 : decode zb_XSight_sideOf 80 = .ok (.iconst 1, 1) := by decide +kernel
theorem zd_XSight_sideOf_81 : decode zb_XSight_sideOf 81 = .ok (.if_icmp .eq 8, 3) := by decide +kernel
theorem zd_XSight_sideOf_84 : decode zb_XSight_sideOf 84 = .ok (.iload_n 1, 1) := by decide +kernel
theorem zd_XSight_sideOf_85 : decode zb_XSight_sideOf 85 = .ok (.iconst 3, 1) := by decide +kernel
theorem zd_XSight_sideOf_86 : decode zb_XSight_sideOf 86 = .ok (.if_icmp .ne 11, 3) := by decide +kernel
theorem zd_XSight_sideOf_89 : decode zb_XSight_sideOf 89 = .ok (.lload 7, 2) := by decide +kernel
theorem zd_XSight_sideOf_91 : decode zb_XSight_sideOf 91 = .ok (.lload 5, 2) := by decide +kernel
theorem zd_XSight_sideOf_93 : decode zb_XSight_sideOf 93 = .ok (.ladd, 1) := by decide +kernel
theorem zd_XSight_sideOf_94 : decode zb_XSight_sideOf 94 = .ok (.goto 8, 3) := by decide +kernel
theorem zd_XSight_sideOf_97 : decode zb_XSight_sideOf 97 = .ok (.lload 7, 2) := by decide +kernel
theorem zd_XSight_sideOf_99 : decode zb_XSight_sideOf 99 = .ok (.lload 5, 2) := by decide +kernel
theorem zd_XSight_sideOf_101 : decode zb_XSight_sideOf 101 = .ok (.lsub, 1) := by decide +kernel
theorem zd_XSight_sideOf_102 : decode zb_XSight_sideOf 102 = .ok (.lreturn, 1) := by decide +kernel
theorem zw_733 : (Jvm.Cond.constantLong "OrreryBox$Sight" (220 : Nat) (4096 : Int64)) ∈ gw := gw_t 733 (by decide +kernel) rfl
def F_XSight_sideOf (sh : zSh) (mm : zMem) (o : Nat) (x0_ : Int32) (x1_ : Int32) : Option (Int64 × zMem) := zoS (sh o) 9 (fun le2 => Option.bind (mm.2.2 o 2) (fun a3 => zoL ((6 * x1_) + 2) (fun i4 => zoS (sh a3) 100 (fun le6 => if (i4 : Int32) < 0 ∨ le6 ≤ (i4 : Int32).toNatClampNeg then none else zoL (((mm.1 a3 (i4 : Int32).toNatClampNeg) : Int32).toInt64) (fun x8 => (if x0_ = 0 then some ((x8 - 4096), mm) else zoS (sh o) 9 (fun le11 => Option.bind (mm.2.2 o 7) (fun a12 => zoS (sh a12) 8 (fun le14 => Option.bind (mm.2.2 a12 6) (fun a15 => zoS (sh a15) 100 (fun le17 => if (6 : Int32) < 0 ∨ le17 ≤ (6 : Int32).toNatClampNeg then none else zoS (sh o) 9 (fun le20 => Option.bind (mm.2.2 o 2) (fun a21 => (if 3 ≤ x0_ then zoL ((6 * x1_) + 1) (fun i23 => zoS (sh a21) 100 (fun le25 => if (i23 : Int32) < 0 ∨ le25 ≤ (i23 : Int32).toNatClampNeg then none else zoL ((((mm.1 a15 (6 : Int32).toNatClampNeg) : Int32).toInt64) * (((mm.1 a21 (i23 : Int32).toNatClampNeg) : Int32).toInt64)) (fun x27 => (if 3 ≤ x0_ then zoS (sh o) 9 (fun le30 => zoL ((((mm.1 o 6) : Int32).toInt64) * x8) (fun x31 => (if x0_ = 1 then some ((x31 + x27), mm) else (if x0_ = 3 then some ((x31 + x27), mm) else some ((x31 - x27), mm))))) else zoS (sh o) 9 (fun le35 => zoL ((((mm.1 o 5) : Int32).toInt64) * x8) (fun x36 => (if x0_ = 1 then some ((x36 + x27), mm) else (if x0_ = 3 then some ((x36 + x27), mm) else some ((x36 - x27), mm))))))))) else zoL ((6 * x1_) + 0) (fun i39 => zoS (sh a21) 100 (fun le41 => if (i39 : Int32) < 0 ∨ le41 ≤ (i39 : Int32).toNatClampNeg then none else zoL ((((mm.1 a15 (6 : Int32).toNatClampNeg) : Int32).toInt64) * (((mm.1 a21 (i39 : Int32).toNatClampNeg) : Int32).toInt64)) (fun x43 => (if 3 ≤ x0_ then zoS (sh o) 9 (fun le46 => zoL ((((mm.1 o 6) : Int32).toInt64) * x8) (fun x47 => (if x0_ = 1 then some ((x47 + x43), mm) else (if x0_ = 3 then some ((x47 + x43), mm) else some ((x47 - x43), mm))))) else zoS (sh o) 9 (fun le51 => zoL ((((mm.1 o 5) : Int32).toInt64) * x8) (fun x52 => (if x0_ = 1 then some ((x52 + x43), mm) else (if x0_ = 3 then some ((x52 + x43), mm) else some ((x52 - x43), mm)))))))))))))))))))))))
set_option maxHeartbeats 4000000 in
set_option maxRecDepth 100000 in
theorem k_XSight_sideOf (l : Launch) (D : va_G) (tA : Nat → ClassId) (b : Nat) (sh : zSh) (n : Nat) {mm : zMem} {o : Nat} {x0_ : Int32} {x1_ : Int32} {r : (Int64 × zMem)} (h : F_XSight_sideOf sh mm o x0_ x1_ = some r) : zM l D tA b zy_XSight_sideOf zb_XSight_sideOf 9 (some .long) 0 0 0 0 [.ref (b + o), .int x0_, .int x1_] (zW tA b sh mm) n (zE (some (.long (r.1))) (zW tA b sh r.2) n) := by
  unfold F_XSight_sideOf at h
  refine zM_of (own := "OrreryBox$Sight") (plainFor_of_name (by decide)) rfl (Nat.le_of_ble_eq_true rfl) (fun p e s m below meth c F hr hin hH => ?_)
  refine zr_aload_n F zd_XSight_sideOf_0 rfl ?_
  obtain ⟨le2, hs1, h⟩ := zoS_s h
  obtain ⟨a3, ea3, h⟩ := zoB_s h
  refine zr_get F 9 2 zd_XSight_sideOf_1 (zW_o hs1 (by decide)) rfl (by decide) zw_375 rfl (by rfl) ?_
  refine zr_tor ea3 ?_
  refine zr_bipushv (v := 6) F zd_XSight_sideOf_4 (by decide) ?_
  refine zr_iload_n F zd_XSight_sideOf_6 rfl ?_
  refine zr_imul F zd_XSight_sideOf_7 ?_
  refine zr_iconstv (v := 2) F zd_XSight_sideOf_8 (by decide) ?_
  refine zr_iadd F zd_XSight_sideOf_9 ?_
  refine zr_pcn 10 rfl ?_
  obtain ⟨i4, ei4, h⟩ := zoL_s h
  rw [← ei4]
  obtain ⟨le6, hs5, h⟩ := zoS_s h
  obtain ⟨hi7, h⟩ := zoI_s h
  refine zr_iald F zd_XSight_sideOf_10 (zW_a0 hs5) hi7 ?_
  refine zr_i2l F zd_XSight_sideOf_11 ?_
  obtain ⟨x8, ex8, h⟩ := zoL_s h
  rw [← ex8]
  refine zr_lstore_n F zd_XSight_sideOf_12 (by decide) ?_
  refine zr_iload_n F zd_XSight_sideOf_13 rfl ?_
  refine zr_if_ne F 23 zd_XSight_sideOf_14 (by decide) (fun hb9 => ?_) (fun hb9 => ?_)
  ·
    rw [if_neg hb9] at h
    refine zr_aload_n F zd_XSight_sideOf_23 rfl ?_
    obtain ⟨le11, hs10, h⟩ := zoS_s h
    obtain ⟨a12, ea12, h⟩ := zoB_s h
    refine zr_get F 9 7 zd_XSight_sideOf_24 (zW_o hs10 (by decide)) rfl (by decide) zw_380 rfl (by rfl) ?_
    refine zr_tor ea12 ?_
    obtain ⟨le14, hs13, h⟩ := zoS_s h
    obtain ⟨a15, ea15, h⟩ := zoB_s h
    refine zr_get F 8 6 zd_XSight_sideOf_27 (zW_o hs13 (by decide)) rfl (by decide) zw_302 rfl (by rfl) ?_
    refine zr_tor ea15 ?_
    refine zr_pcn 30 rfl ?_
    refine zr_bipushv (v := 6) F zd_XSight_sideOf_30 (by decide) ?_
    obtain ⟨le17, hs16, h⟩ := zoS_s h
    obtain ⟨hi18, h⟩ := zoI_s h
    refine zr_iald F zd_XSight_sideOf_32 (zW_a0 hs16) hi18 ?_
    refine zr_i2l F zd_XSight_sideOf_33 ?_
    refine zr_aload_n F zd_XSight_sideOf_34 rfl ?_
    obtain ⟨le20, hs19, h⟩ := zoS_s h
    obtain ⟨a21, ea21, h⟩ := zoB_s h
    refine zr_get F 9 2 zd_XSight_sideOf_35 (zW_o hs19 (by decide)) rfl (by decide) zw_375 rfl (by rfl) ?_
    refine zr_tor ea21 ?_
    refine zr_bipushv (v := 6) F zd_XSight_sideOf_38 (by decide) ?_
    refine zr_iload_n F zd_XSight_sideOf_40 rfl ?_
    refine zr_imul F zd_XSight_sideOf_41 ?_
    refine zr_pcn 42 rfl ?_
    refine zr_iload_n F zd_XSight_sideOf_42 rfl ?_
    refine zr_iconstv (v := 3) F zd_XSight_sideOf_43 (by decide) ?_
    refine zr_icmp_ge F 51 zd_XSight_sideOf_44 (by decide) (fun hb22 => ?_) (fun hb22 => ?_)
    ·
      rw [if_pos hb22] at h
      refine zr_iconstv (v := 1) F zd_XSight_sideOf_51 (by decide) ?_
      refine zr_iadd F zd_XSight_sideOf_52 ?_
      obtain ⟨i23, ei23, h⟩ := zoL_s h
      rw [← ei23]
      obtain ⟨le25, hs24, h⟩ := zoS_s h
      obtain ⟨hi26, h⟩ := zoI_s h
      refine zr_iald F zd_XSight_sideOf_53 (zW_a0 hs24) hi26 ?_
      refine zr_i2l F zd_XSight_sideOf_54 ?_
      refine zr_lmul F zd_XSight_sideOf_55 ?_
      refine zr_pcn 56 rfl ?_
      obtain ⟨x27, ex27, h⟩ := zoL_s h
      rw [← ex27]
      refine zr_lstore F zd_XSight_sideOf_56 (by decide) ?_
      refine zr_iload_n F zd_XSight_sideOf_58 rfl ?_
      refine zr_iconstv (v := 3) F zd_XSight_sideOf_59 (by decide) ?_
      refine zr_icmp_ge F 70 zd_XSight_sideOf_60 (by decide) (fun hb28 => ?_) (fun hb28 => ?_)
      ·
        rw [if_pos hb28] at h
        refine zr_aload_n F zd_XSight_sideOf_70 rfl ?_
        obtain ⟨le30, hs29, h⟩ := zoS_s h
        refine zr_get F 9 6 zd_XSight_sideOf_71 (zW_o hs29 (by decide)) rfl (by decide) zw_379 rfl (by rfl) ?_
        refine zr_i2l F zd_XSight_sideOf_74 ?_
        refine zr_lload_n F zd_XSight_sideOf_75 rfl ?_
        refine zr_pcn 76 rfl ?_
        refine zr_lmul F zd_XSight_sideOf_76 ?_
        obtain ⟨x31, ex31, h⟩ := zoL_s h
        rw [← ex31]
        refine zr_lstore F zd_XSight_sideOf_77 (by decide) ?_
        refine zr_iload_n F zd_XSight_sideOf_79 rfl ?_
        refine zr_iconstv (v := 1) F zd_XSight_sideOf_80 (by decide) ?_
        refine zr_icmp_eq F 89 zd_XSight_sideOf_81 (by decide) (fun hb32 => ?_) (fun hb32 => ?_)
        ·
          rw [if_pos hb32] at h
          refine zr_lload F zd_XSight_sideOf_89 rfl ?_
          refine zr_lload F zd_XSight_sideOf_91 rfl ?_
          refine zr_ladd F zd_XSight_sideOf_93 ?_
          refine zr_pcn 94 rfl ?_
          refine zr_goto F 102 zd_XSight_sideOf_94 (by decide) ?_
          obtain rfl := Option.some.inj h
          exact zr_lret F hr zd_XSight_sideOf_102 (Nat.le_of_ble_eq_true rfl) (Nat.le_of_ble_eq_true rfl) ⟨rfl, rfl, rfl⟩
        ·
          rw [if_neg hb32] at h
          refine zr_iload_n F zd_XSight_sideOf_84 rfl ?_
          refine zr_iconstv (v := 3) F zd_XSight_sideOf_85 (by decide) ?_
          refine zr_icmp_ne F 97 zd_XSight_sideOf_86 (by decide) (fun hb33 => ?_) (fun hb33 => ?_)
          ·
            rw [if_neg hb33] at h
            refine zr_lload F zd_XSight_sideOf_97 rfl ?_
            refine zr_lload F zd_XSight_sideOf_99 rfl ?_
            refine zr_lsub F zd_XSight_sideOf_101 ?_
            refine zr_pcn 102 rfl ?_
            obtain rfl := Option.some.inj h
            exact zr_lret F hr zd_XSight_sideOf_102 (Nat.le_of_ble_eq_true rfl) (Nat.le_of_ble_eq_true rfl) ⟨rfl, rfl, rfl⟩
          ·
            rw [if_pos hb33] at h
            refine zr_lload F zd_XSight_sideOf_89 rfl ?_
            refine zr_lload F zd_XSight_sideOf_91 rfl ?_
            refine zr_ladd F zd_XSight_sideOf_93 ?_
            refine zr_goto F 102 zd_XSight_sideOf_94 (by decide) ?_
            obtain rfl := Option.some.inj h
            exact zr_lret F hr zd_XSight_sideOf_102 (Nat.le_of_ble_eq_true rfl) (Nat.le_of_ble_eq_true rfl) ⟨rfl, rfl, rfl⟩
      ·
        rw [if_neg hb28] at h
        refine zr_aload_n F zd_XSight_sideOf_63 rfl ?_
        obtain ⟨le35, hs34, h⟩ := zoS_s h
        refine zr_get F 9 5 zd_XSight_sideOf_64 (zW_o hs34 (by decide)) rfl (by decide) zw_378 rfl (by rfl) ?_
        refine zr_pcn 67 rfl ?_
        refine zr_goto F 74 zd_XSight_sideOf_67 (by decide) ?_
        refine zr_i2l F zd_XSight_sideOf_74 ?_
        refine zr_lload_n F zd_XSight_sideOf_75 rfl ?_
        refine zr_lmul F zd_XSight_sideOf_76 ?_
        obtain ⟨x36, ex36, h⟩ := zoL_s h
        rw [← ex36]
        refine zr_lstore F zd_XSight_sideOf_77 (by decide) ?_
        refine zr_iload_n F zd_XSight_sideOf_79 rfl ?_
        refine zr_iconstv (v := 1) F zd_XSight_sideOf_80 (by decide) ?_
        refine zr_icmp_eq F 89 zd_XSight_sideOf_81 (by decide) (fun hb37 => ?_) (fun hb37 => ?_)
        ·
          rw [if_pos hb37] at h
          refine zr_pcn 89 rfl ?_
          refine zr_lload F zd_XSight_sideOf_89 rfl ?_
          refine zr_lload F zd_XSight_sideOf_91 rfl ?_
          refine zr_ladd F zd_XSight_sideOf_93 ?_
          refine zr_goto F 102 zd_XSight_sideOf_94 (by decide) ?_
          obtain rfl := Option.some.inj h
          exact zr_lret F hr zd_XSight_sideOf_102 (Nat.le_of_ble_eq_true rfl) (Nat.le_of_ble_eq_true rfl) ⟨rfl, rfl, rfl⟩
        ·
          rw [if_neg hb37] at h
          refine zr_iload_n F zd_XSight_sideOf_84 rfl ?_
          refine zr_iconstv (v := 3) F zd_XSight_sideOf_85 (by decide) ?_
          refine zr_icmp_ne F 97 zd_XSight_sideOf_86 (by decide) (fun hb38 => ?_) (fun hb38 => ?_)
          ·
            rw [if_neg hb38] at h
            refine zr_pcn 97 rfl ?_
            refine zr_lload F zd_XSight_sideOf_97 rfl ?_
            refine zr_lload F zd_XSight_sideOf_99 rfl ?_
            refine zr_lsub F zd_XSight_sideOf_101 ?_
            obtain rfl := Option.some.inj h
            exact zr_lret F hr zd_XSight_sideOf_102 (Nat.le_of_ble_eq_true rfl) (Nat.le_of_ble_eq_true rfl) ⟨rfl, rfl, rfl⟩
          ·
            rw [if_pos hb38] at h
            refine zr_lload F zd_XSight_sideOf_89 rfl ?_
            refine zr_lload F zd_XSight_sideOf_91 rfl ?_
            refine zr_ladd F zd_XSight_sideOf_93 ?_
            refine zr_goto F 102 zd_XSight_sideOf_94 (by decide) ?_
            refine zr_pcn 102 rfl ?_
            obtain rfl := Option.some.inj h
            exact zr_lret F hr zd_XSight_sideOf_102 (Nat.le_of_ble_eq_true rfl) (Nat.le_of_ble_eq_true rfl) ⟨rfl, rfl, rfl⟩
    ·
      rw [if_neg hb22] at h
      refine zr_iconstv (v := 0) F zd_XSight_sideOf_47 (by decide) ?_
      refine zr_goto F 52 zd_XSight_sideOf_48 (by decide) ?_
      refine zr_iadd F zd_XSight_sideOf_52 ?_
      obtain ⟨i39, ei39, h⟩ := zoL_s h
      rw [← ei39]
      obtain ⟨le41, hs40, h⟩ := zoS_s h
      obtain ⟨hi42, h⟩ := zoI_s h
      refine zr_iald F zd_XSight_sideOf_53 (zW_a0 hs40) hi42 ?_
      refine zr_i2l F zd_XSight_sideOf_54 ?_
      refine zr_lmul F zd_XSight_sideOf_55 ?_
      obtain ⟨x43, ex43, h⟩ := zoL_s h
      rw [← ex43]
      refine zr_lstore F zd_XSight_sideOf_56 (by decide) ?_
      refine zr_pcn 58 rfl ?_
      refine zr_iload_n F zd_XSight_sideOf_58 rfl ?_
      refine zr_iconstv (v := 3) F zd_XSight_sideOf_59 (by decide) ?_
      refine zr_icmp_ge F 70 zd_XSight_sideOf_60 (by decide) (fun hb44 => ?_) (fun hb44 => ?_)
      ·
        rw [if_pos hb44] at h
        refine zr_aload_n F zd_XSight_sideOf_70 rfl ?_
        obtain ⟨le46, hs45, h⟩ := zoS_s h
        refine zr_get F 9 6 zd_XSight_sideOf_71 (zW_o hs45 (by decide)) rfl (by decide) zw_379 rfl (by rfl) ?_
        refine zr_i2l F zd_XSight_sideOf_74 ?_
        refine zr_lload_n F zd_XSight_sideOf_75 rfl ?_
        refine zr_lmul F zd_XSight_sideOf_76 ?_
        refine zr_pcn 77 rfl ?_
        obtain ⟨x47, ex47, h⟩ := zoL_s h
        rw [← ex47]
        refine zr_lstore F zd_XSight_sideOf_77 (by decide) ?_
        refine zr_iload_n F zd_XSight_sideOf_79 rfl ?_
        refine zr_iconstv (v := 1) F zd_XSight_sideOf_80 (by decide) ?_
        refine zr_icmp_eq F 89 zd_XSight_sideOf_81 (by decide) (fun hb48 => ?_) (fun hb48 => ?_)
        ·
          rw [if_pos hb48] at h
          refine zr_lload F zd_XSight_sideOf_89 rfl ?_
          refine zr_lload F zd_XSight_sideOf_91 rfl ?_
          refine zr_ladd F zd_XSight_sideOf_93 ?_
          refine zr_goto F 102 zd_XSight_sideOf_94 (by decide) ?_
          refine zr_pcn 102 rfl ?_
          obtain rfl := Option.some.inj h
          exact zr_lret F hr zd_XSight_sideOf_102 (Nat.le_of_ble_eq_true rfl) (Nat.le_of_ble_eq_true rfl) ⟨rfl, rfl, rfl⟩
        ·
          rw [if_neg hb48] at h
          refine zr_iload_n F zd_XSight_sideOf_84 rfl ?_
          refine zr_iconstv (v := 3) F zd_XSight_sideOf_85 (by decide) ?_
          refine zr_icmp_ne F 97 zd_XSight_sideOf_86 (by decide) (fun hb49 => ?_) (fun hb49 => ?_)
          ·
            rw [if_neg hb49] at h
            refine zr_lload F zd_XSight_sideOf_97 rfl ?_
            refine zr_lload F zd_XSight_sideOf_99 rfl ?_
            refine zr_lsub F zd_XSight_sideOf_101 ?_
            obtain rfl := Option.some.inj h
            exact zr_lret F hr zd_XSight_sideOf_102 (Nat.le_of_ble_eq_true rfl) (Nat.le_of_ble_eq_true rfl) ⟨rfl, rfl, rfl⟩
          ·
            rw [if_pos hb49] at h
            refine zr_pcn 89 rfl ?_
            refine zr_lload F zd_XSight_sideOf_89 rfl ?_
            refine zr_lload F zd_XSight_sideOf_91 rfl ?_
            refine zr_ladd F zd_XSight_sideOf_93 ?_
            refine zr_goto F 102 zd_XSight_sideOf_94 (by decide) ?_
            obtain rfl := Option.some.inj h
            exact zr_lret F hr zd_XSight_sideOf_102 (Nat.le_of_ble_eq_true rfl) (Nat.le_of_ble_eq_true rfl) ⟨rfl, rfl, rfl⟩
      ·
        rw [if_neg hb44] at h
        refine zr_aload_n F zd_XSight_sideOf_63 rfl ?_
        obtain ⟨le51, hs50, h⟩ := zoS_s h
        refine zr_get F 9 5 zd_XSight_sideOf_64 (zW_o hs50 (by decide)) rfl (by decide) zw_378 rfl (by rfl) ?_
        refine zr_goto F 74 zd_XSight_sideOf_67 (by decide) ?_
        refine zr_pcn 74 rfl ?_
        refine zr_i2l F zd_XSight_sideOf_74 ?_
        refine zr_lload_n F zd_XSight_sideOf_75 rfl ?_
        refine zr_lmul F zd_XSight_sideOf_76 ?_
        obtain ⟨x52, ex52, h⟩ := zoL_s h
        rw [← ex52]
        refine zr_lstore F zd_XSight_sideOf_77 (by decide) ?_
        refine zr_iload_n F zd_XSight_sideOf_79 rfl ?_
        refine zr_iconstv (v := 1) F zd_XSight_sideOf_80 (by decide) ?_
        refine zr_icmp_eq F 89 zd_XSight_sideOf_81 (by decide) (fun hb53 => ?_) (fun hb53 => ?_)
        ·
          rw [if_pos hb53] at h
          refine zr_lload F zd_XSight_sideOf_89 rfl ?_
          refine zr_pcn 91 rfl ?_
          refine zr_lload F zd_XSight_sideOf_91 rfl ?_
          refine zr_ladd F zd_XSight_sideOf_93 ?_
          refine zr_goto F 102 zd_XSight_sideOf_94 (by decide) ?_
          obtain rfl := Option.some.inj h
          exact zr_lret F hr zd_XSight_sideOf_102 (Nat.le_of_ble_eq_true rfl) (Nat.le_of_ble_eq_true rfl) ⟨rfl, rfl, rfl⟩
        ·
          rw [if_neg hb53] at h
          refine zr_iload_n F zd_XSight_sideOf_84 rfl ?_
          refine zr_iconstv (v := 3) F zd_XSight_sideOf_85 (by decide) ?_
          refine zr_icmp_ne F 97 zd_XSight_sideOf_86 (by decide) (fun hb54 => ?_) (fun hb54 => ?_)
          ·
            rw [if_neg hb54] at h
            refine zr_lload F zd_XSight_sideOf_97 rfl ?_
            refine zr_pcn 99 rfl ?_
            refine zr_lload F zd_XSight_sideOf_99 rfl ?_
            refine zr_lsub F zd_XSight_sideOf_101 ?_
            obtain rfl := Option.some.inj h
            exact zr_lret F hr zd_XSight_sideOf_102 (Nat.le_of_ble_eq_true rfl) (Nat.le_of_ble_eq_true rfl) ⟨rfl, rfl, rfl⟩
          ·
            rw [if_pos hb54] at h
            refine zr_lload F zd_XSight_sideOf_89 rfl ?_
            refine zr_lload F zd_XSight_sideOf_91 rfl ?_
            refine zr_ladd F zd_XSight_sideOf_93 ?_
            refine zr_goto F 102 zd_XSight_sideOf_94 (by decide) ?_
            obtain rfl := Option.some.inj h
            exact zr_lret F hr zd_XSight_sideOf_102 (Nat.le_of_ble_eq_true rfl) (Nat.le_of_ble_eq_true rfl) ⟨rfl, rfl, rfl⟩
  ·
    rw [if_pos hb9] at h
    refine zr_pcn 17 rfl ?_
    refine zr_lload_n F zd_XSight_sideOf_17 rfl ?_
    refine zr_ldc2 F zd_XSight_sideOf_18 zw_733 ?_
    refine zr_lsub F zd_XSight_sideOf_21 ?_
    obtain rfl := Option.some.inj h
    exact zr_lret F hr zd_XSight_sideOf_22 (Nat.le_of_ble_eq_true rfl) (Nat.le_of_ble_eq_true rfl) ⟨rfl, rfl, rfl⟩
abbrev zb_XSight_putBetween : ByteArray := prog_10_method_16_code
def zy_XSight_putBetween : MethodName := ⟨"OrreryBox$Sight", "putBetween", "(IJIJI)V"⟩
theorem zc_XSight_putBetween : Cond.code zy_XSight_putBetween zb_XSight_putBetween 13 none ∈ gw := gw_t 737 (by decide +kernel) rfl
theorem zq_XSight_putBetween : zy_XSight_putBetween.cls ≠ "java/lang/invoke/MethodHandle" ∧ zy_XSight_putBetween.cls ≠ "java/lang/invoke/VarHandle" ∧ (parseMethodDescriptor zy_XSight_putBetween.desc).map (fun d => d.parameters.length) = some 5 := by decide +kernel
theorem zd_XSight_putBetween_0 : decode zb_XSight_putBetween 0 = .ok (.lconst 1, 1) := by decide +kernel
theorem zd_XSight_putBetween_1 : decode zb_XSight_putBetween 1 = .ok (.lload_n 2, 1) := by decide +kernel
theorem zd_XSight_putBetween_2 : decode zb_XSight_putBetween 2 = .ok (.lload 5, 2) := by decide +kernel
theorem zd_XSight_putBetween_4 : decode zb_XSight_putBetween 4 = .ok (.lsub, 1) := by decide +kernel
theorem zd_XSight_putBetween_5 : decode zb_XSight_putBetween 5 = .ok (.invokestatic 186, 3) := by decide +kernel
theorem zd_XSight_putBetween_8 : decode zb_XSight_putBetween 8 = .ok (.lstore 8, 2) := by decide +kernel
theorem zd_XSight_putBetween_10 : decode zb_XSight_putBetween 10 = .ok (.iconst 0, 1) := by decide +kernel
theorem zd_XSight_putBetween_11 : decode zb_XSight_putBetween 11 = .ok (.istore 10, 2) := by decide +kernel
theorem zd_XSight_putBetween_13 : decode zb_XSight_putBetween 13 = .ok (.iload 10, 2) := by decide +kernel
theorem zd_XSight_putBetween_15 : decode zb_XSight_putBetween 15 = .ok (.bipush 6, 2) := by decide +kernel
theorem zd_XSight_putBetween_17 : decode zb_XSight_putBetween 17 = .ok (.if_icmp .ge 63, 3) := by decide +kernel
theorem zd_XSight_putBetween_20 : decode zb_XSight_putBetween 20 = .ok (.aload_n 0, 1) := by decide +kernel
theorem zd_XSight_putBetween_21 : decode zb_XSight_putBetween 21 = .ok (.getfield 18, 3) := by decide +kernel
theorem zd_XSight_putBetween_24 : decode zb_XSight_putBetween 24 = .ok (.iload 4, 2) := by decide +kernel
theorem zd_XSight_putBetween_26 : decode zb_XSight_putBetween 26 = .ok (.iload 10, 2) := by decide +kernel
theorem zd_XSight_putBetween_28 : decode zb_XSight_putBetween 28 = .ok (.iadd, 1) := by decide +kernel
theorem zd_XSight_putBetween_29 : decode zb_XSight_putBetween 29 = .ok (.iaload, 1) := by decide +kernel
theorem zd_XSight_putBetween_30 : decode zb_XSight_putBetween 30 = .ok (.aload_n 0, 1) := by decide +kernel
theorem zd_XSight_putBetween_31 : decode zb_XSight_putBetween 31 = .ok (.getfield 18, 3) := by decide +kernel
theorem zd_XSight_putBetween_34 : decode zb_XSight_putBetween 34 = .ok (.iload_n 1, 1) := by decide +kernel
theorem zd_XSight_putBetween_35 : decode zb_XSight_putBetween 35 = .ok (.iload 10, 2) := by decide +kernel
theorem zd_XSight_putBetween_37 : decode zb_XSight_putBetween 37 = .ok (.iadd, 1) := by decide +kernel
theorem zd_XSight_putBetween_38 : decode zb_XSight_putBetween 38 = .ok (.iaload, 1) := by decide +kernel
theorem zd_XSight_putBetween_39 : decode zb_XSight_putBetween 39 = .ok (.isub, 1) := by decide +kernel
theorem zd_XSight_putBetween_40 : decode zb_XSight_putBetween 40 = .ok (.i2l, 1) := by decide +kernel
theorem zd_XSight_putBetween_41 : decode zb_XSight_putBetween 41 = .ok (.lstore 11, 2) := by decide +kernel
theorem zd_XSight_putBetween_43 : decode zb_XSight_putBetween 43 = .ok (.aload_n 0, 1) := by decide +kernel
theorem zd_XSight_putBetween_44 : decode zb_XSight_putBetween 44 = .ok (.getfield 39, 3) := by decide +kernel
theorem zd_XSight_putBetween_47 : decode zb_XSight_putBetween 47 = .ok (.iload 7, 2) := by decide +kernel
theorem zd_XSight_putBetween_49 : decode zb_XSight_putBetween 49 = .ok (.iload 10, 2) := by decide +kernel
theorem zd_XSight_putBetween_51 : decode zb_XSight_putBetween 51 = .ok (.iadd, 1) := by decide +kernel
theorem zd_XSight_putBetween_52 : decode zb_XSight_putBetween 52 = .ok (.aload_n 0, 1) := by decide +kernel
theorem zd_XSight_putBetween_53 : decode zb_XSight_putBetween 53 = .ok (.getfield 18, 3) := by decide +kernel
theorem zd_XSight_putBetween_56 : decode zb_XSight_putBetween 56 = .ok (.iload_n 1, 1) := by decide +kernel
theorem zd_XSight_putBetween_57 : decode zb_XSight_putBetween 57 = .ok (.iload 10, 2) := by decide +kernel
theorem zd_XSight_putBetween_59 : decode zb_XSight_putBetween 59 = .ok (.iadd, 1) := by decide +kernel
theorem zd_XSight_putBetween_60 : decode zb_XSight_putBetween 60 = .ok (.iaload, 1) := by decide +kernel
theorem zd_XSight_putBetween_61 : decode zb_XSight_putBetween 61 = .ok (.i2l, 1) := by decide +kernel
theorem zd_XSight_putBetween_62 : decode zb_XSight_putBetween 62 = .ok (.lload 11, 2) := by decide +kernel
theorem zd_XSight_putBetween_64 : decode zb_XSight_putBetween 64 = .ok (.lload_n 2, 1) := by decide +kernel
theorem zd_XSight_putBetween_65 : decode zb_XSight_putBetween 65 = .ok (.lmul, 1) := by decide +kernel
theorem zd_XSight_putBetween_66 : decode zb_XSight_putBetween 66 = .ok (.lload 8, 2) := by decide +kernel
theorem zd_XSight_putBetween_68 : decode zb_XSight_putBetween 68 = .ok (.invokestatic 222, 3) := by decide +kernel
theorem zd_XSight_putBetween_71 : decode zb_XSight_putBetween 71 = .ok (.ladd, 1) := by decide +kernel
theorem zd_XSight_putBetween_72 : decode zb_XSight_putBetween 72 = .ok (.l2i, 1) := by decide +kernel
theorem zd_XSight_putBetween_73 : decode zb_XSight_putBetween 73 = .ok (.iastore, 1) := by decide +kernel
theorem zd_XSight_putBetween_74 : decode zb_XSight_putBetween 74 = .ok (.iinc 10 1, 3) := by decide +kernel
theorem zd_XSight_putBetween_77 : decode zb_XSight_putBetween 77 = .ok (.goto (-64), 3) := by decide +kernel
theorem zd_XSight_putBetween_80 : decode zb_XSight_putBetween 80 = .ok (.return_, 1) := by decide +kernel
theorem zw_738 : (Jvm.Cond.methodLink "OrreryBox$Sight" (222 : Nat) ({ cls := "java/lang/Math", name := "floorDiv", desc := "(JJ)J" } : Jvm.MethodName)) ∈ gw := gw_t 738 (by decide +kernel) rfl
theorem zs_XSight_222 : zwS "OrreryBox$Sight" 222 zy_JMath_floorDiv zb_JMath_floorDiv 6 (some .long) := ⟨zw_738, zw_574, zw_4, zc_JMath_floorDiv⟩
def L_XSight_putBetween_13 (sh : zSh) (fuel : Nat) (v0 : Nat) (v1 : Int32) (v2 : Int64) (v4 : Int32) (v7 : Int32) (v8 : Int64) (v10 : Int32) (mm : zMem) : Option (Nat × Int32 × Int64 × Int32 × Int32 × Int64 × Int32 × zMem) := match fuel with
  | 0 => none
  | fu + 1 => (if 6 ≤ v10 then some (v0, v1, v2, v4, v7, v8, v10, mm) else zoS (sh v0) 9 (fun le5 => Option.bind (mm.2.2 v0 2) (fun a6 => zoL (v4 + v10) (fun i7 => zoS (sh a6) 100 (fun le9 => if (i7 : Int32) < 0 ∨ le9 ≤ (i7 : Int32).toNatClampNeg then none else zoS (sh v0) 9 (fun le12 => Option.bind (mm.2.2 v0 2) (fun a13 => zoL (v1 + v10) (fun i14 => zoS (sh a13) 100 (fun le16 => if (i14 : Int32) < 0 ∨ le16 ≤ (i14 : Int32).toNatClampNeg then none else zoL ((((mm.1 a6 (i7 : Int32).toNatClampNeg) - (mm.1 a13 (i14 : Int32).toNatClampNeg)) : Int32).toInt64) (fun x18 => zoS (sh v0) 9 (fun le20 => Option.bind (mm.2.2 v0 14) (fun a21 => zoS (sh v0) 9 (fun le23 => Option.bind (mm.2.2 v0 2) (fun a24 => zoL (v1 + v10) (fun i25 => zoS (sh a24) 100 (fun le27 => if (i25 : Int32) < 0 ∨ le27 ≤ (i25 : Int32).toNatClampNeg then none else Option.bind (F_JMath_floorDiv sh mm (x18 * v2) v8) (fun p29 => zoL ((((((mm.1 a24 (i25 : Int32).toNatClampNeg) : Int32).toInt64) + p29.1) : Int64).toInt32) (fun x30 => zoL (v7 + v10) (fun i31 => zoS (sh a21) 100 (fun le33 => if (i31 : Int32) < 0 ∨ le33 ≤ (i31 : Int32).toNatClampNeg then none else zoL (mI (p29.2) a21 (i31 : Int32).toNatClampNeg x30) (fun mm35 => L_XSight_putBetween_13 sh fu v0 v1 v2 v4 v7 v8 (v10 + 1) mm35)))))))))))))))))))))
set_option maxHeartbeats 4000000 in
set_option maxRecDepth 100000 in
theorem lp_XSight_putBetween_13 {p : Program} {l : Launch} {e : Env} {s : State} {m : MethodId} {args : Array Value} {below : List Frame} {meth : Method} {c : Code} {D : va_G} {tA : Nat → ClassId} {b n : Nat} {post : Option Value → zV → Nat → Prop} {sh : zSh} (F : zF p s m args meth c zb_XSight_putBetween 13 "OrreryBox$Sight" D tA b) : ∀ (fuel : Nat) (v0 : Nat) (v1 : Int32) (v2 : Int64) (v4 : Int32) (v7 : Int32) (v8 : Int64) (v10 : Int32) (mm : zMem) (r : Nat × Int32 × Int64 × Int32 × Int32 × Int64 × Int32 × zMem), L_XSight_putBetween_13 sh fuel v0 v1 v2 v4 v7 v8 v10 mm = some r → (Z p l e { frames := 1, cells := 0, slots := 0, locals := 25 } s m args below meth c D b 13 (MQ below (zQ D b post) args s 0 0 (fun q => b ≤ q)) (zW tA b sh r.2.2.2.2.2.2.2) n 0 0 80 [(0, .ref (b + (r.1))), (1, .int (r.2.1)), (2, .long (r.2.2.1)), (4, .int (r.2.2.2.1)), (7, .int (r.2.2.2.2.1)), (8, .long (r.2.2.2.2.2.1)), (10, .int (r.2.2.2.2.2.2.1))] []) → Z p l e { frames := 1, cells := 0, slots := 0, locals := 25 } s m args below meth c D b 13 (MQ below (zQ D b post) args s 0 0 (fun q => b ≤ q)) (zW tA b sh mm) n 0 0 13 [(0, .ref (b + v0)), (1, .int v1), (2, .long v2), (4, .int v4), (7, .int v7), (8, .long v8), (10, .int v10)] [] := by
  intro fuel
  induction fuel with
  | zero =>
    intro v0 v1 v2 v4 v7 v8 v10 mm r h
    cases h
  | succ fu ih =>
    intro v0 v1 v2 v4 v7 v8 v10 mm r h hx0
    rw [L_XSight_putBetween_13] at h
    refine zr_iload F zd_XSight_putBetween_13 rfl ?_
    refine zr_bipushv (v := 6) F zd_XSight_putBetween_15 (by decide) ?_
    refine zr_icmp_ge F 80 zd_XSight_putBetween_17 (by decide) (fun hb3 => ?_) (fun hb3 => ?_)
    ·
      rw [if_pos hb3] at h
      obtain rfl := Option.some.inj h
      refine zr_loc (L' := [(0, .ref (b + v0)), (1, .int v1), (2, .long v2), (4, .int v4), (7, .int v7), (8, .long v8), (10, .int v10)]) ⟨rfl, rfl, rfl, rfl, rfl, rfl, rfl, trivial⟩ ?_
      exact hx0 
    ·
      rw [if_neg hb3] at h
      refine zr_aload_n F zd_XSight_putBetween_20 rfl ?_
      obtain ⟨le5, hs4, h⟩ := zoS_s h
      obtain ⟨a6, ea6, h⟩ := zoB_s h
      refine zr_get F 9 2 zd_XSight_putBetween_21 (zW_o hs4 (by decide)) rfl (by decide) zw_375 rfl (by rfl) ?_
      refine zr_tor ea6 ?_
      refine zr_iload F zd_XSight_putBetween_24 rfl ?_
      refine zr_iload F zd_XSight_putBetween_26 rfl ?_
      refine zr_pcn 28 rfl ?_
      refine zr_iadd F zd_XSight_putBetween_28 ?_
      obtain ⟨i7, ei7, h⟩ := zoL_s h
      rw [← ei7]
      obtain ⟨le9, hs8, h⟩ := zoS_s h
      obtain ⟨hi10, h⟩ := zoI_s h
      refine zr_iald F zd_XSight_putBetween_29 (zW_a0 hs8) hi10 ?_
      refine zr_aload_n F zd_XSight_putBetween_30 rfl ?_
      obtain ⟨le12, hs11, h⟩ := zoS_s h
      obtain ⟨a13, ea13, h⟩ := zoB_s h
      refine zr_get F 9 2 zd_XSight_putBetween_31 (zW_o hs11 (by decide)) rfl (by decide) zw_375 rfl (by rfl) ?_
      refine zr_tor ea13 ?_
      refine zr_iload_n F zd_XSight_putBetween_34 rfl ?_
      refine zr_iload F zd_XSight_putBetween_35 rfl ?_
      refine zr_iadd F zd_XSight_putBetween_37 ?_
      obtain ⟨i14, ei14, h⟩ := zoL_s h
      rw [← ei14]
      obtain ⟨le16, hs15, h⟩ := zoS_s h
      obtain ⟨hi17, h⟩ := zoI_s h
      refine zr_iald F zd_XSight_putBetween_38 (zW_a0 hs15) hi17 ?_
      refine zr_pcn 39 rfl ?_
      refine zr_isub F zd_XSight_putBetween_39 ?_
      refine zr_i2l F zd_XSight_putBetween_40 ?_
      obtain ⟨x18, ex18, h⟩ := zoL_s h
      rw [← ex18]
      refine zr_lstore F zd_XSight_putBetween_41 (by decide) ?_
      refine zr_aload_n F zd_XSight_putBetween_43 rfl ?_
      obtain ⟨le20, hs19, h⟩ := zoS_s h
      obtain ⟨a21, ea21, h⟩ := zoB_s h
      refine zr_get F 9 14 zd_XSight_putBetween_44 (zW_o hs19 (by decide)) rfl (by decide) zw_387 rfl (by rfl) ?_
      refine zr_tor ea21 ?_
      refine zr_iload F zd_XSight_putBetween_47 rfl ?_
      refine zr_iload F zd_XSight_putBetween_49 rfl ?_
      refine zr_iadd F zd_XSight_putBetween_51 ?_
      refine zr_pcn 52 rfl ?_
      refine zr_aload_n F zd_XSight_putBetween_52 rfl ?_
      obtain ⟨le23, hs22, h⟩ := zoS_s h
      obtain ⟨a24, ea24, h⟩ := zoB_s h
      refine zr_get F 9 2 zd_XSight_putBetween_53 (zW_o hs22 (by decide)) rfl (by decide) zw_375 rfl (by rfl) ?_
      refine zr_tor ea24 ?_
      refine zr_iload_n F zd_XSight_putBetween_56 rfl ?_
      refine zr_iload F zd_XSight_putBetween_57 rfl ?_
      refine zr_iadd F zd_XSight_putBetween_59 ?_
      obtain ⟨i25, ei25, h⟩ := zoL_s h
      rw [← ei25]
      obtain ⟨le27, hs26, h⟩ := zoS_s h
      obtain ⟨hi28, h⟩ := zoI_s h
      refine zr_iald F zd_XSight_putBetween_60 (zW_a0 hs26) hi28 ?_
      refine zr_i2l F zd_XSight_putBetween_61 ?_
      refine zr_lload F zd_XSight_putBetween_62 rfl ?_
      refine zr_pcn 64 rfl ?_
      refine zr_lload_n F zd_XSight_putBetween_64 rfl ?_
      refine zr_lmul F zd_XSight_putBetween_65 ?_
      refine zr_lload F zd_XSight_putBetween_66 rfl ?_
      obtain ⟨p29, ep29, h⟩ := zoB_s h
      refine zr_callS1 F (k_JMath_floorDiv l D tA b sh _ ep29) zd_XSight_putBetween_68 zs_XSight_222 zq_JMath_floorDiv rfl rfl ⟨(Nat.le_of_ble_eq_true rfl), (Nat.le_of_ble_eq_true rfl)⟩ (Nat.le_of_ble_eq_true rfl) ⟨(Nat.le_of_ble_eq_true rfl), (Nat.le_of_ble_eq_true rfl)⟩ ?_
      refine zr_ladd F zd_XSight_putBetween_71 ?_
      refine zr_l2i F zd_XSight_putBetween_72 ?_
      obtain ⟨x30, ex30, h⟩ := zoL_s h
      rw [← ex30]
      obtain ⟨i31, ei31, h⟩ := zoL_s h
      rw [← ei31]
      obtain ⟨le33, hs32, h⟩ := zoS_s h
      obtain ⟨hi34, h⟩ := zoI_s h
      refine zr_iast F zd_XSight_putBetween_73 (zW_a0 hs32) hi34 ?_
      obtain ⟨mm35, emm35, h⟩ := zoL_s h
      refine zr_norm (zW tA b sh mm35) _ (by rw [emm35]; exact zW_s0 hs32) rfl ?_
      refine zr_iinc (v := (v10 + 1)) F zd_XSight_putBetween_74 rfl rfl (by decide) ?_
      refine zr_pcn 77 rfl ?_
      refine zr_goto F 13 zd_XSight_putBetween_77 (by decide) ?_
      refine zr_loc (L' := [(0, .ref (b + v0)), (1, .int v1), (2, .long v2), (4, .int v4), (7, .int v7), (8, .long v8), (10, .int (v10 + 1))]) ⟨rfl, rfl, rfl, rfl, rfl, rfl, rfl, trivial⟩ ?_
      exact ih _ _ _ _ _ _ _ _ _ h hx0
def F_XSight_putBetween (sh : zSh) (mm : zMem) (o : Nat) (x0_ : Int32) (x1_ : Int64) (x2_ : Int32) (x3_ : Int64) (x4_ : Int32) : Option zMem := zoL (zx_maxl 1 (x1_ - x3_)) (fun x2 => Option.bind (L_XSight_putBetween_13 sh zfuel o x0_ x1_ x2_ x4_ x2 0 mm) (fun q36 => some (q36.2.2.2.2.2.2.2)))
set_option maxHeartbeats 4000000 in
set_option maxRecDepth 100000 in
theorem k_XSight_putBetween (l : Launch) (D : va_G) (tA : Nat → ClassId) (b : Nat) (sh : zSh) (n : Nat) {mm : zMem} {o : Nat} {x0_ : Int32} {x1_ : Int64} {x2_ : Int32} {x3_ : Int64} {x4_ : Int32} {r : zMem} (h : F_XSight_putBetween sh mm o x0_ x1_ x2_ x3_ x4_ = some r) : zM l D tA b zy_XSight_putBetween zb_XSight_putBetween 13 none 1 25 0 0 [.ref (b + o), .int x0_, .long x1_, .int x2_, .long x3_, .int x4_] (zW tA b sh mm) n (zE none (zW tA b sh r) n) := by
  unfold F_XSight_putBetween at h
  refine zM_of (own := "OrreryBox$Sight") (plainFor_of_name (by decide)) rfl (Nat.le_of_ble_eq_true rfl) (fun p e s m below meth c F hr hin hH => ?_)
  refine zr_lconstv (v := 1) F zd_XSight_putBetween_0 (by decide) ?_
  refine zr_lload_n F zd_XSight_putBetween_1 rfl ?_
  refine zr_lload F zd_XSight_putBetween_2 rfl ?_
  refine zr_lsub F zd_XSight_putBetween_4 ?_
  refine zr_callS1 F (c_JMath_max2 l D tA b _ _ 1 (x1_ - x3_)) zd_XSight_putBetween_5 zs_XSight_186 zq_JMath_max2 rfl rfl ⟨(Nat.le_of_ble_eq_true rfl), (Nat.le_of_ble_eq_true rfl)⟩ (Nat.le_of_ble_eq_true rfl) ⟨(Nat.le_of_ble_eq_true rfl), (Nat.le_of_ble_eq_true rfl)⟩ ?_
  obtain ⟨x2, ex2, h⟩ := zoL_s h
  rw [← ex2]
  refine zr_lstore F zd_XSight_putBetween_8 (by decide) ?_
  refine zr_iconstv (v := 0) F zd_XSight_putBetween_10 (by decide) ?_
  refine zr_pcn 11 rfl ?_
  refine zr_istore F zd_XSight_putBetween_11 (by decide) ?_
  obtain ⟨q36, eq36, h⟩ := zoB_s h
  refine zr_loc (L' := [(0, .ref (b + o)), (1, .int x0_), (2, .long x1_), (4, .int x2_), (7, .int x4_), (8, .long x2), (10, .int 0)]) ⟨rfl, rfl, rfl, rfl, rfl, rfl, rfl, trivial⟩ ?_
  refine lp_XSight_putBetween_13 F _ _ _ _ _ _ _ _ _ _ eq36 ?_
  ·
    obtain rfl := Option.some.inj h
    exact zr_vret F hr zd_XSight_putBetween_80 (Nat.le_of_ble_eq_true rfl) (Nat.le_of_ble_eq_true rfl) ⟨rfl, rfl, rfl⟩
abbrev zb_XSight_projectCorners : ByteArray := prog_10_method_17_code
def zy_XSight_projectCorners : MethodName := ⟨"OrreryBox$Sight", "projectCorners", "()V"⟩
theorem zc_XSight_projectCorners : Cond.code zy_XSight_projectCorners zb_XSight_projectCorners 6 none ∈ gw := gw_t 742 (by decide +kernel) rfl
theorem zq_XSight_projectCorners : zy_XSight_projectCorners.cls ≠ "java/lang/invoke/MethodHandle" ∧ zy_XSight_projectCorners.cls ≠ "java/lang/invoke/VarHandle" ∧ (parseMethodDescriptor zy_XSight_projectCorners.desc).map (fun d => d.parameters.length) = some 0 := by decide +kernel
theorem zd_XSight_projectCorners_0 : decode zb_XSight_projectCorners 0 = .ok (.ldc2_w 225, 3) := by decide +kernel
theorem zd_XSight_projectCorners_3 : decode zb_XSight_projectCorners 3 = .ok (.aload_n 0, 1) := by decide +kernel
theorem zd_XSight_projectCorners_4 : decode zb_XSight_projectCorners 4 = .ok (.getfield 49, 3) := by decide +kernel
theorem zd_XSight_projectCorners_7 : decode zb_XSight_projectCorners 7 = .ok (.getfield 102, 3) := by decide +kernel
theorem zd_XSight_projectCorners_10 : decode zb_XSight_projectCorners 10 = .ok (.bipush 6, 2) := by decide +kernel
theorem zd_XSight_projectCorners_12 : decode zb_XSight_projectCorners 12 = .ok (.iaload, 1) := by decide +kernel
theorem zd_XSight_projectCorners_13 : decode zb_XSight_projectCorners 13 = .ok (.i2l, 1) := by decide +kernel
theorem zd_XSight_projectCorners_14 : decode zb_XSight_projectCorners 14 = .ok (.lmul, 1) := by decide +kernel
theorem zd_XSight_projectCorners_15 : decode zb_XSight_projectCorners 15 = .ok (.lstore_n 1, 1) := by decide +kernel
theorem zd_XSight_projectCorners_16 : decode zb_XSight_projectCorners 16 = .ok (.iconst 0, 1) := by decide +kernel
theorem zd_XSight_projectCorners_17 : decode zb_XSight_projectCorners 17 = .ok (.istore_n 3, 1) := by decide +kernel
theorem zd_XSight_projectCorners_18 : decode zb_XSight_projectCorners 18 = .ok (.iload_n 3, 1) := by decide +kernel
theorem zd_XSight_projectCorners_19 : decode zb_XSight_projectCorners 19 = .ok (.bipush 6, 2) := by decide +kernel
theorem zd_XSight_projectCorners_21 : decode zb_XSight_projectCorners 21 = .ok (.aload_n 0, 1) := by decide +kernel
theorem zd_XSight_projectCorners_22 : decode zb_XSight_projectCorners 22 = .ok (.getfield 62, 3) := by decide +kernel
theorem zd_XSight_projectCorners_25 : decode zb_XSight_projectCorners 25 = .ok (.imul, 1) := by decide +kernel
theorem zd_XSight_projectCorners_26 : decode zb_XSight_projectCorners 26 = .ok (.if_icmp .ge 99, 3) := by decide +kernel
theorem zd_XSight_projectCorners_29 : decode zb_XSight_projectCorners 29 = .ok (.aload_n 0, 1) := by decide +kernel
theorem zd_XSight_projectCorners_30 : decode zb_XSight_projectCorners 30 = .ok (.getfield 18, 3) := by decide +kernel
theorem zd_XSight_projectCorners_33 : decode zb_XSight_projectCorners 33 = .ok (.iload_n 3, 1) := by decide +kernel
theorem zd_XSight_projectCorners_34 : decode zb_XSight_projectCorners 34 = .ok (.iconst 2, 1) := by decide +kernel
theorem zd_XSight_projectCorners_35 : decode zb_XSight_projectCorners 35 = .ok (.iadd, 1) := by decide +kernel
theorem zd_XSight_projectCorners_36 : decode zb_XSight_projectCorners 36 = .ok (.iaload, 1) := by decide +kernel
theorem zd_XSight_projectCorners_37 : decode zb_XSight_projectCorners 37 = .ok (.i2l, 1) := by decide +kernel
theorem zd_XSight_projectCorners_38 : decode zb_XSight_projectCorners 38 = .ok (.lstore 4, 2) := by decide +kernel
theorem zd_XSight_projectCorners_40 : decode zb_XSight_projectCorners 40 = .ok (.aload_n 0, 1) := by decide +kernel
theorem zd_XSight_projectCorners_41 : decode zb_XSight_projectCorners 41 = .ok (.getfield 18, 3) := by decide +kernel
theorem zd_XSight_projectCorners_44 : decode zb_XSight_projectCorners 44 = .ok (.iload_n 3, 1) := by decide +kernel
theorem zd_XSight_projectCorners_45 : decode zb_XSight_projectCorners 45 = .ok (.lload_n 1, 1) := by decide +kernel
theorem zd_XSight_projectCorners_46 : decode zb_XSight_projectCorners 46 = .ok (.aload_n 0, 1) := by decide +kernel
theorem zd_XSight_projectCorners_47 : decode zb_XSight_projectCorners 47 = .ok (.getfield 18, 3) := by decide +kernel
theorem zd_XSight_projectCorners_50 : decode zb_XSight_projectCorners 50 = .ok (.iload_n 3, 1) := by decide +kernel
theorem zd_XSight_projectCorners_51 : decode zb_XSight_projectCorners 51 = .ok (.iaload, 1) := by decide +kernel
theorem zd_XSight_projectCorners_52 : decode zb_XSight_projectCorners 52 = .ok (.i2l, 1) := by decide +kernel
theorem zd_XSight_projectCorners_53 : decode zb_XSight_projectCorners 53 = .ok (.lmul, 1) := by decide +kernel
theorem zd_XSight_projectCorners_54 : decode zb_XSight_projectCorners 54 = .ok (.lload 4, 2) := by decide +kernel
theorem zd_XSight_projectCorners_56 : decode zb_XSight_projectCorners 56 = .ok (.invokestatic 227, 3) := by decide +kernel
theorem zd_XSight_projectCorners_59 : decode zb_XSight_projectCorners 59 = .ok (.l2i, 1) := by decide +kernel
theorem zd_XSight_projectCorners_60 : decode zb_XSight_projectCorners 60 = .ok (.bipush 8, 2) := by decide +kernel
theorem zd_XSight_projectCorners_62 : decode zb_XSight_projectCorners 62 = .ok (.aload_n 0, 1) := by decide +kernel
theorem zd_XSight_projectCorners_63 : decode zb_XSight_projectCorners 63 = .ok (.getfield 42, 3) := by decide +kernel
theorem zd_XSight_projectCorners_66 : decode zb_XSight_projectCorners 66 = .ok (.imul, 1) := by decide +kernel
theorem zd_XSight_projectCorners_67 : decode zb_XSight_projectCorners 67 = .ok (.iadd, 1) := by decide +kernel
theorem zd_XSight_projectCorners_68 : decode zb_XSight_projectCorners 68 = .ok (.iastore, 1) := by decide +kernel
theorem zd_XSight_projectCorners_69 : decode zb_XSight_projectCorners 69 = .ok (.aload_n 0, 1) := by decide +kernel
theorem zd_XSight_projectCorners_70 : decode zb_XSight_projectCorners 70 = .ok (.getfield 18, 3) := by decide +kernel
theorem zd_XSight_projectCorners_73 : decode zb_XSight_projectCorners 73 = .ok (.iload_n 3, 1) := by decide +kernel
theorem zd_XSight_projectCorners_74 : decode zb_XSight_projectCorners 74 = .ok (.iconst 1, 1) := by decide +kernel
theorem zd_XSight_projectCorners_75 : decode zb_XSight_projectCorners 75 = .ok (.iadd, 1) := by decide +kernel
theorem zd_XSight_projectCorners_76 : decode zb_XSight_projectCorners 76 = .ok (.lload_n 1, 1) := by decide +kernel
theorem zd_XSight_projectCorners_77 : decode zb_XSight_projectCorners 77 = .ok (.aload_n 0, 1) := by decide +kernel
theorem zd_XSight_projectCorners_78 : decode zb_XSight_projectCorners 78 = .ok (.getfield 18, 3) := by decide +kernel
theorem zd_XSight_projectCorners_81 : decode zb_XSight_projectCorners 81 = .ok (.iload_n 3, 1) := by decide +kernel
theorem zd_XSight_projectCorners_82 : decode zb_XSight_projectCorners 82 = .ok (.iconst 1, 1) := by decide +kernel
theorem zd_XSight_projectCorners_83 : decode zb_XSight_projectCorners 83 = .ok (.iadd, 1) := by decide +kernel
theorem zd_XSight_projectCorners_84 : decode zb_XSight_projectCorners 84 = .ok (.iaload, 1) := by decide +kernel
theorem zd_XSight_projectCorners_85 : decode zb_XSight_projectCorners 85 = .ok (.i2l, 1) := by decide +kernel
theorem zd_XSight_projectCorners_86 : decode zb_XSight_projectCorners 86 = .ok (.lmul, 1) := by decide +kernel
theorem zd_XSight_projectCorners_87 : decode zb_XSight_projectCorners 87 = .ok (.lload 4, 2) := by decide +kernel
theorem zd_XSight_projectCorners_89 : decode zb_XSight_projectCorners 89 = .ok (.invokestatic 227, 3) := by decide +kernel
theorem zd_XSight_projectCorners_92 : decode zb_XSight_projectCorners 92 = .ok (.l2i, 1) := by decide +kernel
theorem zd_XSight_projectCorners_93 : decode zb_XSight_projectCorners 93 = .ok (.bipush 8, 2) := by decide +kernel
theorem zd_XSight_projectCorners_95 : decode zb_XSight_projectCorners 95 = .ok (.aload_n 0, 1) := by decide +kernel
theorem zd_XSight_projectCorners_96 : decode zb_XSight_projectCorners 96 = .ok (.getfield 46, 3) := by decide +kernel
theorem zd_XSight_projectCorners_99 : decode zb_XSight_projectCorners 99 = .ok (.imul, 1) := by decide +kernel
theorem zd_XSight_projectCorners_100 : decode zb_XSight_projectCorners 100 = .ok (.iadd, 1) := by decide +kernel
theorem zd_XSight_projectCorners_101 : decode zb_XSight_projectCorners 101 = .ok (.iastore, 1) := by decide +kernel
theorem zd_XSight_projectCorners_102 : decode zb_XSight_projectCorners 102 = .ok (.aload_n 0, 1) := by decide +kernel
theorem zd_XSight_projectCorners_103 : decode zb_XSight_projectCorners 103 = .ok (.getfield 18, 3) := by decide +kernel
theorem zd_XSight_projectCorners_106 : decode zb_XSight_projectCorners 106 = .ok (.iload_n 3, 1) := by decide +kernel
theorem zd_XSight_projectCorners_107 : decode zb_XSight_projectCorners 107 = .ok (.iconst 2, 1) := by decide +kernel
theorem zd_XSight_projectCorners_108 : decode zb_XSight_projectCorners 108 = .ok (.iadd, 1) := by decide +kernel
theorem zd_XSight_projectCorners_109 : decode zb_XSight_projectCorners 109 = .ok (.ldc2_w 230, 3) := by decide +kernel
theorem zd_XSight_projectCorners_112 : decode zb_XSight_projectCorners 112 = .ok (.lload 4, 2) := by decide +kernel
theorem zd_XSight_projectCorners_114 : decode zb_XSight_projectCorners 114 = .ok (.invokestatic 227, 3) := by decide +kernel
theorem zd_XSight_projectCorners_117 : decode zb_XSight_projectCorners 117 = .ok (.l2i, 1) := by decide +kernel
theorem zd_XSight_projectCorners_118 : decode zb_XSight_projectCorners 118 = .ok (.iastore, 1) := by decide +kernel
theorem zd_XSight_projectCorners_119 : decode zb_XSight_projectCorners 119 = .ok (.iinc 3 6, 3) := by decide +kernel
theorem zd_XSight_projectCorners_122 : decode zb_XSight_projectCorners 122 = .ok (.goto (-104), 3) := by decide +kernel
theorem zd_XSight_projectCorners_125 : decode zb_XSight_projectCorners 125 = .ok (.return_, 1) := by decide +kernel
theorem zw_743 : (Jvm.Cond.constantLong "OrreryBox$Sight" (225 : Nat) (16 : Int64)) ∈ gw := gw_t 743 (by decide +kernel) rfl
theorem zw_744 : (Jvm.Cond.methodLink "OrreryBox$Sight" (227 : Nat) ({ cls := "OrreryBox$Fixed", name := "div", desc := "(JJ)J" } : Jvm.MethodName)) ∈ gw := gw_t 744 (by decide +kernel) rfl
theorem zs_XSight_227 : zwS "OrreryBox$Sight" 227 zy_XFixed_div zb_XFixed_div 4 (some .long) := ⟨zw_744, zw_571, zw_27, zc_XFixed_div⟩
theorem zw_745 : (Jvm.Cond.constantLong "OrreryBox$Sight" (230 : Nat) (4294967296 : Int64)) ∈ gw := gw_t 745 (by decide +kernel) rfl
def L_XSight_projectCorners_18 (sh : zSh) (fuel : Nat) (v0 : Nat) (v1 : Int64) (v3 : Int32) (mm : zMem) : Option (Nat × Int64 × Int32 × zMem) := match fuel with
  | 0 => none
  | fu + 1 => zoS (sh v0) 9 (fun le12 => (if (6 * (mm.1 v0 3)) ≤ v3 then some (v0, v1, v3, mm) else zoS (sh v0) 9 (fun le15 => Option.bind (mm.2.2 v0 2) (fun a16 => zoL (v3 + 2) (fun i17 => zoS (sh a16) 100 (fun le19 => if (i17 : Int32) < 0 ∨ le19 ≤ (i17 : Int32).toNatClampNeg then none else zoL (((mm.1 a16 (i17 : Int32).toNatClampNeg) : Int32).toInt64) (fun x21 => zoS (sh v0) 9 (fun le23 => Option.bind (mm.2.2 v0 2) (fun a24 => zoS (sh v0) 9 (fun le26 => Option.bind (mm.2.2 v0 2) (fun a27 => zoS (sh a27) 100 (fun le29 => if (v3 : Int32) < 0 ∨ le29 ≤ (v3 : Int32).toNatClampNeg then none else zoL (v1 * (((mm.1 a27 (v3 : Int32).toNatClampNeg) : Int32).toInt64)) (fun x31 => zoS (sh v0) 9 (fun le34 => zoL ((((zx_div x31 x21) : Int64).toInt32) + (8 * (mm.1 v0 5))) (fun x35 => zoS (sh a24) 100 (fun le37 => if (v3 : Int32) < 0 ∨ le37 ≤ (v3 : Int32).toNatClampNeg then none else zoL (mI mm a24 (v3 : Int32).toNatClampNeg x35) (fun mm39 => zoS (sh v0) 9 (fun le41 => Option.bind (mm39.2.2 v0 2) (fun a42 => zoS (sh v0) 9 (fun le44 => Option.bind (mm39.2.2 v0 2) (fun a45 => zoL (v3 + 1) (fun i46 => zoS (sh a45) 100 (fun le48 => if (i46 : Int32) < 0 ∨ le48 ≤ (i46 : Int32).toNatClampNeg then none else zoL (v1 * (((mm39.1 a45 (i46 : Int32).toNatClampNeg) : Int32).toInt64)) (fun x50 => zoS (sh v0) 9 (fun le53 => zoL ((((zx_div x50 x21) : Int64).toInt32) + (8 * (mm39.1 v0 6))) (fun x54 => zoS (sh a42) 100 (fun le56 => if (i46 : Int32) < 0 ∨ le56 ≤ (i46 : Int32).toNatClampNeg then none else zoL (mI mm39 a42 (i46 : Int32).toNatClampNeg x54) (fun mm58 => zoS (sh v0) 9 (fun le60 => Option.bind (mm58.2.2 v0 2) (fun a61 => zoL (((zx_div 4294967296 x21) : Int64).toInt32) (fun x63 => zoL (v3 + 2) (fun i64 => zoS (sh a61) 100 (fun le66 => if (i64 : Int32) < 0 ∨ le66 ≤ (i64 : Int32).toNatClampNeg then none else zoL (mI mm58 a61 (i64 : Int32).toNatClampNeg x63) (fun mm68 => L_XSight_projectCorners_18 sh fu v0 v1 (v3 + 6) mm68))))))))))))))))))))))))))))))))))
set_option maxHeartbeats 4000000 in
set_option maxRecDepth 100000 in
theorem lp_XSight_projectCorners_18 {p : Program} {l : Launch} {e : Env} {s : State} {m : MethodId} {args : Array Value} {below : List Frame} {meth : Method} {c : Code} {D : va_G} {tA : Nat → ClassId} {b n : Nat} {post : Option Value → zV → Nat → Prop} {sh : zSh} (F : zF p s m args meth c zb_XSight_projectCorners 6 "OrreryBox$Sight" D tA b) : ∀ (fuel : Nat) (v0 : Nat) (v1 : Int64) (v3 : Int32) (mm : zMem) (r : Nat × Int64 × Int32 × zMem), L_XSight_projectCorners_18 sh fuel v0 v1 v3 mm = some r → (Z p l e { frames := 2, cells := 0, slots := 0, locals := 48 } s m args below meth c D b 6 (MQ below (zQ D b post) args s 0 0 (fun q => b ≤ q)) (zW tA b sh r.2.2.2) n 0 0 125 [(0, .ref (b + (r.1))), (1, .long (r.2.1)), (3, .int (r.2.2.1))] []) → Z p l e { frames := 2, cells := 0, slots := 0, locals := 48 } s m args below meth c D b 6 (MQ below (zQ D b post) args s 0 0 (fun q => b ≤ q)) (zW tA b sh mm) n 0 0 18 [(0, .ref (b + v0)), (1, .long v1), (3, .int v3)] [] := by
  intro fuel
  induction fuel with
  | zero =>
    intro v0 v1 v3 mm r h
    cases h
  | succ fu ih =>
    intro v0 v1 v3 mm r h hx0
    rw [L_XSight_projectCorners_18] at h
    refine zr_iload_n F zd_XSight_projectCorners_18 rfl ?_
    refine zr_bipushv (v := 6) F zd_XSight_projectCorners_19 (by decide) ?_
    refine zr_aload_n F zd_XSight_projectCorners_21 rfl ?_
    obtain ⟨le12, hs11, h⟩ := zoS_s h
    refine zr_get F 9 3 zd_XSight_projectCorners_22 (zW_o hs11 (by decide)) rfl (by decide) zw_376 rfl (by rfl) ?_
    refine zr_pcn 25 rfl ?_
    refine zr_imul F zd_XSight_projectCorners_25 ?_
    refine zr_icmp_ge F 125 zd_XSight_projectCorners_26 (by decide) (fun hb13 => ?_) (fun hb13 => ?_)
    ·
      rw [if_pos hb13] at h
      obtain rfl := Option.some.inj h
      refine zr_loc (L' := [(0, .ref (b + v0)), (1, .long v1), (3, .int v3)]) ⟨rfl, rfl, rfl, trivial⟩ ?_
      exact hx0 
    ·
      rw [if_neg hb13] at h
      refine zr_aload_n F zd_XSight_projectCorners_29 rfl ?_
      obtain ⟨le15, hs14, h⟩ := zoS_s h
      obtain ⟨a16, ea16, h⟩ := zoB_s h
      refine zr_get F 9 2 zd_XSight_projectCorners_30 (zW_o hs14 (by decide)) rfl (by decide) zw_375 rfl (by rfl) ?_
      refine zr_tor ea16 ?_
      refine zr_iload_n F zd_XSight_projectCorners_33 rfl ?_
      refine zr_iconstv (v := 2) F zd_XSight_projectCorners_34 (by decide) ?_
      refine zr_iadd F zd_XSight_projectCorners_35 ?_
      obtain ⟨i17, ei17, h⟩ := zoL_s h
      rw [← ei17]
      obtain ⟨le19, hs18, h⟩ := zoS_s h
      obtain ⟨hi20, h⟩ := zoI_s h
      refine zr_iald F zd_XSight_projectCorners_36 (zW_a0 hs18) hi20 ?_
      refine zr_pcn 37 rfl ?_
      refine zr_i2l F zd_XSight_projectCorners_37 ?_
      obtain ⟨x21, ex21, h⟩ := zoL_s h
      rw [← ex21]
      refine zr_lstore F zd_XSight_projectCorners_38 (by decide) ?_
      refine zr_aload_n F zd_XSight_projectCorners_40 rfl ?_
      obtain ⟨le23, hs22, h⟩ := zoS_s h
      obtain ⟨a24, ea24, h⟩ := zoB_s h
      refine zr_get F 9 2 zd_XSight_projectCorners_41 (zW_o hs22 (by decide)) rfl (by decide) zw_375 rfl (by rfl) ?_
      refine zr_tor ea24 ?_
      refine zr_iload_n F zd_XSight_projectCorners_44 rfl ?_
      refine zr_lload_n F zd_XSight_projectCorners_45 rfl ?_
      refine zr_aload_n F zd_XSight_projectCorners_46 rfl ?_
      obtain ⟨le26, hs25, h⟩ := zoS_s h
      obtain ⟨a27, ea27, h⟩ := zoB_s h
      refine zr_get F 9 2 zd_XSight_projectCorners_47 (zW_o hs25 (by decide)) rfl (by decide) zw_375 rfl (by rfl) ?_
      refine zr_tor ea27 ?_
      refine zr_pcn 50 rfl ?_
      refine zr_iload_n F zd_XSight_projectCorners_50 rfl ?_
      obtain ⟨le29, hs28, h⟩ := zoS_s h
      obtain ⟨hi30, h⟩ := zoI_s h
      refine zr_iald F zd_XSight_projectCorners_51 (zW_a0 hs28) hi30 ?_
      refine zr_i2l F zd_XSight_projectCorners_52 ?_
      refine zr_lmul F zd_XSight_projectCorners_53 ?_
      refine zr_lload F zd_XSight_projectCorners_54 rfl ?_
      obtain ⟨x31, ex31, h⟩ := zoL_s h
      rw [← ex31]
      refine zr_callS1 F (c_XFixed_div l D tA b _ _ x31 x21) zd_XSight_projectCorners_56 zs_XSight_227 zq_XFixed_div rfl rfl ⟨(Nat.le_of_ble_eq_true rfl), (Nat.le_of_ble_eq_true rfl)⟩ (Nat.le_of_ble_eq_true rfl) ⟨(Nat.le_of_ble_eq_true rfl), (Nat.le_of_ble_eq_true rfl)⟩ ?_
      refine zr_l2i F zd_XSight_projectCorners_59 ?_
      refine zr_bipushv (v := 8) F zd_XSight_projectCorners_60 (by decide) ?_
      refine zr_pcn 62 rfl ?_
      refine zr_aload_n F zd_XSight_projectCorners_62 rfl ?_
      obtain ⟨le34, hs33, h⟩ := zoS_s h
      refine zr_get F 9 5 zd_XSight_projectCorners_63 (zW_o hs33 (by decide)) rfl (by decide) zw_378 rfl (by rfl) ?_
      refine zr_imul F zd_XSight_projectCorners_66 ?_
      refine zr_iadd F zd_XSight_projectCorners_67 ?_
      obtain ⟨x35, ex35, h⟩ := zoL_s h
      rw [← ex35]
      obtain ⟨le37, hs36, h⟩ := zoS_s h
      obtain ⟨hi38, h⟩ := zoI_s h
      refine zr_iast F zd_XSight_projectCorners_68 (zW_a0 hs36) hi38 ?_
      obtain ⟨mm39, emm39, h⟩ := zoL_s h
      refine zr_norm (zW tA b sh mm39) _ (by rw [emm39]; exact zW_s0 hs36) rfl ?_
      refine zr_aload_n F zd_XSight_projectCorners_69 rfl ?_
      obtain ⟨le41, hs40, h⟩ := zoS_s h
      obtain ⟨a42, ea42, h⟩ := zoB_s h
      refine zr_get F 9 2 zd_XSight_projectCorners_70 (zW_o hs40 (by decide)) rfl (by decide) zw_375 rfl (by rfl) ?_
      refine zr_tor ea42 ?_
      refine zr_iload_n F zd_XSight_projectCorners_73 rfl ?_
      refine zr_pcn 74 rfl ?_
      refine zr_iconstv (v := 1) F zd_XSight_projectCorners_74 (by decide) ?_
      refine zr_iadd F zd_XSight_projectCorners_75 ?_
      refine zr_lload_n F zd_XSight_projectCorners_76 rfl ?_
      refine zr_aload_n F zd_XSight_projectCorners_77 rfl ?_
      obtain ⟨le44, hs43, h⟩ := zoS_s h
      obtain ⟨a45, ea45, h⟩ := zoB_s h
      refine zr_get F 9 2 zd_XSight_projectCorners_78 (zW_o hs43 (by decide)) rfl (by decide) zw_375 rfl (by rfl) ?_
      refine zr_tor ea45 ?_
      refine zr_iload_n F zd_XSight_projectCorners_81 rfl ?_
      refine zr_iconstv (v := 1) F zd_XSight_projectCorners_82 (by decide) ?_
      refine zr_iadd F zd_XSight_projectCorners_83 ?_
      refine zr_pcn 84 rfl ?_
      obtain ⟨i46, ei46, h⟩ := zoL_s h
      rw [← ei46]
      obtain ⟨le48, hs47, h⟩ := zoS_s h
      obtain ⟨hi49, h⟩ := zoI_s h
      refine zr_iald F zd_XSight_projectCorners_84 (zW_a0 hs47) hi49 ?_
      refine zr_i2l F zd_XSight_projectCorners_85 ?_
      refine zr_lmul F zd_XSight_projectCorners_86 ?_
      refine zr_lload F zd_XSight_projectCorners_87 rfl ?_
      obtain ⟨x50, ex50, h⟩ := zoL_s h
      rw [← ex50]
      refine zr_callS1 F (c_XFixed_div l D tA b _ _ x50 x21) zd_XSight_projectCorners_89 zs_XSight_227 zq_XFixed_div rfl rfl ⟨(Nat.le_of_ble_eq_true rfl), (Nat.le_of_ble_eq_true rfl)⟩ (Nat.le_of_ble_eq_true rfl) ⟨(Nat.le_of_ble_eq_true rfl), (Nat.le_of_ble_eq_true rfl)⟩ ?_
      refine zr_l2i F zd_XSight_projectCorners_92 ?_
      refine zr_bipushv (v := 8) F zd_XSight_projectCorners_93 (by decide) ?_
      refine zr_aload_n F zd_XSight_projectCorners_95 rfl ?_
      refine zr_pcn 96 rfl ?_
      obtain ⟨le53, hs52, h⟩ := zoS_s h
      refine zr_get F 9 6 zd_XSight_projectCorners_96 (zW_o hs52 (by decide)) rfl (by decide) zw_379 rfl (by rfl) ?_
      refine zr_imul F zd_XSight_projectCorners_99 ?_
      refine zr_iadd F zd_XSight_projectCorners_100 ?_
      obtain ⟨x54, ex54, h⟩ := zoL_s h
      rw [← ex54]
      obtain ⟨le56, hs55, h⟩ := zoS_s h
      obtain ⟨hi57, h⟩ := zoI_s h
      refine zr_iast F zd_XSight_projectCorners_101 (zW_a0 hs55) hi57 ?_
      obtain ⟨mm58, emm58, h⟩ := zoL_s h
      refine zr_norm (zW tA b sh mm58) _ (by rw [emm58]; exact zW_s0 hs55) rfl ?_
      refine zr_aload_n F zd_XSight_projectCorners_102 rfl ?_
      obtain ⟨le60, hs59, h⟩ := zoS_s h
      obtain ⟨a61, ea61, h⟩ := zoB_s h
      refine zr_get F 9 2 zd_XSight_projectCorners_103 (zW_o hs59 (by decide)) rfl (by decide) zw_375 rfl (by rfl) ?_
      refine zr_tor ea61 ?_
      refine zr_iload_n F zd_XSight_projectCorners_106 rfl ?_
      refine zr_iconstv (v := 2) F zd_XSight_projectCorners_107 (by decide) ?_
      refine zr_pcn 108 rfl ?_
      refine zr_iadd F zd_XSight_projectCorners_108 ?_
      refine zr_ldc2 F zd_XSight_projectCorners_109 zw_745 ?_
      refine zr_lload F zd_XSight_projectCorners_112 rfl ?_
      refine zr_callS1 F (c_XFixed_div l D tA b _ _ 4294967296 x21) zd_XSight_projectCorners_114 zs_XSight_227 zq_XFixed_div rfl rfl ⟨(Nat.le_of_ble_eq_true rfl), (Nat.le_of_ble_eq_true rfl)⟩ (Nat.le_of_ble_eq_true rfl) ⟨(Nat.le_of_ble_eq_true rfl), (Nat.le_of_ble_eq_true rfl)⟩ ?_
      refine zr_l2i F zd_XSight_projectCorners_117 ?_
      obtain ⟨x63, ex63, h⟩ := zoL_s h
      rw [← ex63]
      obtain ⟨i64, ei64, h⟩ := zoL_s h
      rw [← ei64]
      obtain ⟨le66, hs65, h⟩ := zoS_s h
      obtain ⟨hi67, h⟩ := zoI_s h
      refine zr_iast F zd_XSight_projectCorners_118 (zW_a0 hs65) hi67 ?_
      obtain ⟨mm68, emm68, h⟩ := zoL_s h
      refine zr_norm (zW tA b sh mm68) _ (by rw [emm68]; exact zW_s0 hs65) rfl ?_
      refine zr_iinc (v := (v3 + 6)) F zd_XSight_projectCorners_119 rfl rfl (by decide) ?_
      refine zr_goto F 18 zd_XSight_projectCorners_122 (by decide) ?_
      refine zr_loc (L' := [(0, .ref (b + v0)), (1, .long v1), (3, .int (v3 + 6))]) ⟨rfl, rfl, rfl, trivial⟩ ?_
      exact ih _ _ _ _ _ h hx0
def F_XSight_projectCorners (sh : zSh) (mm : zMem) (o : Nat) : Option zMem := zoS (sh o) 9 (fun le2 => Option.bind (mm.2.2 o 7) (fun a3 => zoS (sh a3) 8 (fun le5 => Option.bind (mm.2.2 a3 6) (fun a6 => zoS (sh a6) 100 (fun le8 => if (6 : Int32) < 0 ∨ le8 ≤ (6 : Int32).toNatClampNeg then none else zoL (16 * (((mm.1 a6 (6 : Int32).toNatClampNeg) : Int32).toInt64)) (fun x10 => Option.bind (L_XSight_projectCorners_18 sh zfuel o x10 0 mm) (fun q69 => some (q69.2.2.2))))))))
set_option maxHeartbeats 4000000 in
set_option maxRecDepth 100000 in
theorem k_XSight_projectCorners (l : Launch) (D : va_G) (tA : Nat → ClassId) (b : Nat) (sh : zSh) (n : Nat) {mm : zMem} {o : Nat} {r : zMem} (h : F_XSight_projectCorners sh mm o = some r) : zM l D tA b zy_XSight_projectCorners zb_XSight_projectCorners 6 none 2 48 0 0 [.ref (b + o)] (zW tA b sh mm) n (zE none (zW tA b sh r) n) := by
  unfold F_XSight_projectCorners at h
  refine zM_of (own := "OrreryBox$Sight") (plainFor_of_name (by decide)) rfl (Nat.le_of_ble_eq_true rfl) (fun p e s m below meth c F hr hin hH => ?_)
  refine zr_ldc2 F zd_XSight_projectCorners_0 zw_743 ?_
  refine zr_aload_n F zd_XSight_projectCorners_3 rfl ?_
  obtain ⟨le2, hs1, h⟩ := zoS_s h
  obtain ⟨a3, ea3, h⟩ := zoB_s h
  refine zr_get F 9 7 zd_XSight_projectCorners_4 (zW_o hs1 (by decide)) rfl (by decide) zw_380 rfl (by rfl) ?_
  refine zr_tor ea3 ?_
  obtain ⟨le5, hs4, h⟩ := zoS_s h
  obtain ⟨a6, ea6, h⟩ := zoB_s h
  refine zr_get F 8 6 zd_XSight_projectCorners_7 (zW_o hs4 (by decide)) rfl (by decide) zw_302 rfl (by rfl) ?_
  refine zr_tor ea6 ?_
  refine zr_bipushv (v := 6) F zd_XSight_projectCorners_10 (by decide) ?_
  obtain ⟨le8, hs7, h⟩ := zoS_s h
  obtain ⟨hi9, h⟩ := zoI_s h
  refine zr_iald F zd_XSight_projectCorners_12 (zW_a0 hs7) hi9 ?_
  refine zr_i2l F zd_XSight_projectCorners_13 ?_
  refine zr_pcn 14 rfl ?_
  refine zr_lmul F zd_XSight_projectCorners_14 ?_
  obtain ⟨x10, ex10, h⟩ := zoL_s h
  rw [← ex10]
  refine zr_lstore_n F zd_XSight_projectCorners_15 (by decide) ?_
  refine zr_iconstv (v := 0) F zd_XSight_projectCorners_16 (by decide) ?_
  refine zr_istore_n F zd_XSight_projectCorners_17 (by decide) ?_
  obtain ⟨q69, eq69, h⟩ := zoB_s h
  refine zr_loc (L' := [(0, .ref (b + o)), (1, .long x10), (3, .int 0)]) ⟨rfl, rfl, rfl, trivial⟩ ?_
  refine lp_XSight_projectCorners_18 F _ _ _ _ _ _ eq69 ?_
  ·
    refine zr_pcn 125 rfl ?_
    obtain rfl := Option.some.inj h
    exact zr_vret F hr zd_XSight_projectCorners_125 (Nat.le_of_ble_eq_true rfl) (Nat.le_of_ble_eq_true rfl) ⟨rfl, rfl, rfl⟩
abbrev zb_XTexture_mean : ByteArray := prog_11_method_4_code
def zy_XTexture_mean : MethodName := ⟨"OrreryBox$Texture", "mean", "(IIII)I"⟩
theorem zc_XTexture_mean : Cond.code zy_XTexture_mean zb_XTexture_mean 7 (some .int) ∈ gw := gw_t 1242 (by decide +kernel) rfl
theorem zq_XTexture_mean : zy_XTexture_mean.cls ≠ "java/lang/invoke/MethodHandle" ∧ zy_XTexture_mean.cls ≠ "java/lang/invoke/VarHandle" ∧ (parseMethodDescriptor zy_XTexture_mean.desc).map (fun d => d.parameters.length) = some 4 := by decide +kernel
theorem zd_XTexture_mean_0 : decode zb_XTexture_mean 0 = .ok (.iconst 0, 1) := by decide +kernel
theorem zd_XTexture_mean_1 : decode zb_XTexture_mean 1 = .ok (.istore 4, 2) := by decide +kernel
theorem zd_XTexture_mean_3 : decode zb_XTexture_mean 3 = .ok (.iconst 0, 1) := by decide +kernel
theorem zd_XTexture_mean_4 : decode zb_XTexture_mean 4 = .ok (.istore 5, 2) := by decide +kernel
theorem zd_XTexture_mean_6 : decode zb_XTexture_mean 6 = .ok (.iload 5, 2) := by decide +kernel
theorem zd_XTexture_mean_8 : decode zb_XTexture_mean 8 = .ok (.bipush 16, 2) := by decide +kernel
theorem zd_XTexture_mean_10 : decode zb_XTexture_mean 10 = .ok (.if_icmp .gt 58, 3) := by decide +kernel
theorem zd_XTexture_mean_13 : decode zb_XTexture_mean 13 = .ok (.iload_n 0, 1) := by decide +kernel
theorem zd_XTexture_mean_14 : decode zb_XTexture_mean 14 = .ok (.iload 5, 2) := by decide +kernel
theorem zd_XTexture_mean_16 : decode zb_XTexture_mean 16 = .ok (.ishr, 1) := by decide +kernel
theorem zd_XTexture_mean_17 : decode zb_XTexture_mean 17 = .ok (.sipush 255, 3) := by decide +kernel
theorem zd_XTexture_mean_20 : decode zb_XTexture_mean 20 = .ok (.iand, 1) := by decide +kernel
theorem zd_XTexture_mean_21 : decode zb_XTexture_mean 21 = .ok (.iload_n 1, 1) := by decide +kernel
theorem zd_XTexture_mean_22 : decode zb_XTexture_mean 22 = .ok (.iload 5, 2) := by decide +kernel
theorem zd_XTexture_mean_24 : decode zb_XTexture_mean 24 = .ok (.ishr, 1) := by decide +kernel
theorem zd_XTexture_mean_25 : decode zb_XTexture_mean 25 = .ok (.sipush 255, 3) := by decide +kernel
theorem zd_XTexture_mean_28 : decode zb_XTexture_mean 28 = .ok (.iand, 1) := by decide +kernel
theorem zd_XTexture_mean_29 : decode zb_XTexture_mean 29 = .ok (.iadd, 1) := by decide +kernel
theorem zd_XTexture_mean_30 : decode zb_XTexture_mean 30 = .ok (.iload_n 2, 1) := by decide +kernel
theorem zd_XTexture_mean_31 : decode zb_XTexture_mean 31 = .ok (.iload 5, 2) := by decide +kernel
theorem zd_XTexture_mean_33 : decode zb_XTexture_mean 33 = .ok (.ishr, 1) := by decide +kernel
theorem zd_XTexture_mean_34 : decode zb_XTexture_mean 34 = .ok (.sipush 255, 3) := by decide +kernel
theorem zd_XTexture_mean_37 : decode zb_XTexture_mean 37 = .ok (.iand, 1) := by decide +kernel
theorem zd_XTexture_mean_38 : decode zb_XTexture_mean 38 = .ok (.iadd, 1) := by decide +kernel
theorem zd_XTexture_mean_39 : decode zb_XTexture_mean 39 = .ok (.iload_n 3, 1) := by decide +kernel
theorem zd_XTexture_mean_40 : decode zb_XTexture_mean 40 = .ok (.iload 5, 2) := by decide +kernel
theorem zd_XTexture_mean_42 : decode zb_XTexture_mean 42 = .ok (.ishr, 1) := by decide +kernel
theorem zd_XTexture_mean_43 : decode zb_XTexture_mean 43 = .ok (.sipush 255, 3) := by decide +kernel
theorem zd_XTexture_mean_46 : decode zb_XTexture_mean 46 = .ok (.iand, 1) := by decide +kernel
theorem zd_XTexture_mean_47 : decode zb_XTexture_mean 47 = .ok (.iadd, 1) := by decide +kernel
theorem zd_XTexture_mean_48 : decode zb_XTexture_mean 48 = .ok (.istore 6, 2) := by decide +kernel
theorem zd_XTexture_mean_50 : decode zb_XTexture_mean 50 = .ok (.iload 4, 2) := by decide +kernel
theorem zd_XTexture_mean_52 : decode zb_XTexture_mean 52 = .ok (.iload 6, 2) := by decide +kernel
theorem zd_XTexture_mean_54 : decode zb_XTexture_mean 54 = .ok (.iconst 4, 1) := by decide +kernel
theorem zd_XTexture_mean_55 : decode zb_XTexture_mean 55 = .ok (.idiv, 1) := by decide +kernel
theorem zd_XTexture_mean_56 : decode zb_XTexture_mean 56 = .ok (.iload 5, 2) := by decide +kernel
theorem zd_XTexture_mean_58 : decode zb_XTexture_mean 58 = .ok (.ishl, 1) := by decide +kernel
theorem zd_XTexture_mean_59 : decode zb_XTexture_mean 59 = .ok (.ior, 1) := by decide +kernel
theorem zd_XTexture_mean_60 : decode zb_XTexture_mean 60 = .ok (.istore 4, 2) := by decide +kernel
theorem zd_XTexture_mean_62 : decode zb_XTexture_mean 62 = .ok (.iinc 5 8, 3) := by decide +kernel
theorem zd_XTexture_mean_65 : decode zb_XTexture_mean 65 = .ok (.goto (-59), 3) := by decide +kernel
theorem zd_XTexture_mean_68 : decode zb_XTexture_mean 68 = .ok (.iload 4, 2) := by decide +kernel
theorem zd_XTexture_mean_70 : decode zb_XTexture_mean 70 = .ok (.ireturn, 1) := by decide +kernel
def L_XTexture_mean_6 (sh : zSh) (fuel : Nat) (v0 : Int32) (v1 : Int32) (v2 : Int32) (v3 : Int32) (v4 : Int32) (v5 : Int32) (mm : zMem) : Option (Int32 × Int32 × Int32 × Int32 × Int32 × Int32 × zMem) := match fuel with
  | 0 => none
  | fu + 1 => (if 16 < v5 then some (v0, v1, v2, v3, v4, v5, mm) else zoL (((((v0 >>> (v5 &&& 31)) &&& 255) + ((v1 >>> (v5 &&& 31)) &&& 255)) + ((v2 >>> (v5 &&& 31)) &&& 255)) + ((v3 >>> (v5 &&& 31)) &&& 255)) (fun x2 => zoL (v4 ||| ((x2 / 4) <<< (v5 &&& 31))) (fun x3 => L_XTexture_mean_6 sh fu v0 v1 v2 v3 x3 (v5 + 8) mm)))
set_option maxHeartbeats 4000000 in
set_option maxRecDepth 100000 in
theorem lp_XTexture_mean_6 {p : Program} {l : Launch} {e : Env} {s : State} {m : MethodId} {args : Array Value} {below : List Frame} {meth : Method} {c : Code} {D : va_G} {tA : Nat → ClassId} {b n : Nat} {post : Option Value → zV → Nat → Prop} {sh : zSh} (F : zF p s m args meth c zb_XTexture_mean 7 "OrreryBox$Texture" D tA b) : ∀ (fuel : Nat) (v0 : Int32) (v1 : Int32) (v2 : Int32) (v3 : Int32) (v4 : Int32) (v5 : Int32) (mm : zMem) (r : Int32 × Int32 × Int32 × Int32 × Int32 × Int32 × zMem), L_XTexture_mean_6 sh fuel v0 v1 v2 v3 v4 v5 mm = some r → (Z p l e { frames := 0, cells := 0, slots := 0, locals := 0 } s m args below meth c D b 7 (MQ below (zQ D b post) args s 0 0 (fun q => b ≤ q)) (zW tA b sh r.2.2.2.2.2.2) n 0 0 68 [(0, .int (r.1)), (1, .int (r.2.1)), (2, .int (r.2.2.1)), (3, .int (r.2.2.2.1)), (4, .int (r.2.2.2.2.1)), (5, .int (r.2.2.2.2.2.1))] []) → Z p l e { frames := 0, cells := 0, slots := 0, locals := 0 } s m args below meth c D b 7 (MQ below (zQ D b post) args s 0 0 (fun q => b ≤ q)) (zW tA b sh mm) n 0 0 6 [(0, .int v0), (1, .int v1), (2, .int v2), (3, .int v3), (4, .int v4), (5, .int v5)] [] := by
  intro fuel
  induction fuel with
  | zero =>
    intro v0 v1 v2 v3 v4 v5 mm r h
    cases h
  | succ fu ih =>
    intro v0 v1 v2 v3 v4 v5 mm r h hx0
    rw [L_XTexture_mean_6] at h
    refine zr_iload F zd_XTexture_mean_6 rfl ?_
    refine zr_bipushv (v := 16) F zd_XTexture_mean_8 (by decide) ?_
    refine zr_icmp_gt F 68 zd_XTexture_mean_10 (by decide) (fun hb1 => ?_) (fun hb1 => ?_)
    ·
      rw [if_pos hb1] at h
      obtain rfl := Option.some.inj h
      refine zr_loc (L' := [(0, .int v0), (1, .int v1), (2, .int v2), (3, .int v3), (4, .int v4), (5, .int v5)]) ⟨rfl, rfl, rfl, rfl, rfl, rfl, trivial⟩ ?_
      exact hx0 
    ·
      rw [if_neg hb1] at h
      refine zr_pcn 13 rfl ?_
      refine zr_iload_n F zd_XTexture_mean_13 rfl ?_
      refine zr_iload F zd_XTexture_mean_14 rfl ?_
      refine zr_ishr F zd_XTexture_mean_16 ?_
      refine zr_sipushv (v := 255) F zd_XTexture_mean_17 (by decide) ?_
      refine zr_iand F zd_XTexture_mean_20 ?_
      refine zr_iload_n F zd_XTexture_mean_21 rfl ?_
      refine zr_iload F zd_XTexture_mean_22 rfl ?_
      refine zr_ishr F zd_XTexture_mean_24 ?_
      refine zr_pcn 25 rfl ?_
      refine zr_sipushv (v := 255) F zd_XTexture_mean_25 (by decide) ?_
      refine zr_iand F zd_XTexture_mean_28 ?_
      refine zr_iadd F zd_XTexture_mean_29 ?_
      refine zr_iload_n F zd_XTexture_mean_30 rfl ?_
      refine zr_iload F zd_XTexture_mean_31 rfl ?_
      refine zr_ishr F zd_XTexture_mean_33 ?_
      refine zr_sipushv (v := 255) F zd_XTexture_mean_34 (by decide) ?_
      refine zr_iand F zd_XTexture_mean_37 ?_
      refine zr_pcn 38 rfl ?_
      refine zr_iadd F zd_XTexture_mean_38 ?_
      refine zr_iload_n F zd_XTexture_mean_39 rfl ?_
      refine zr_iload F zd_XTexture_mean_40 rfl ?_
      refine zr_ishr F zd_XTexture_mean_42 ?_
      refine zr_sipushv (v := 255) F zd_XTexture_mean_43 (by decide) ?_
      refine zr_iand F zd_XTexture_mean_46 ?_
      refine zr_iadd F zd_XTexture_mean_47 ?_
      obtain ⟨x2, ex2, h⟩ := zoL_s h
      rw [← ex2]
      refine zr_istore F zd_XTexture_mean_48 (by decide) ?_
      refine zr_pcn 50 rfl ?_
      refine zr_iload F zd_XTexture_mean_50 rfl ?_
      refine zr_iload F zd_XTexture_mean_52 rfl ?_
      refine zr_iconstv (v := 4) F zd_XTexture_mean_54 (by decide) ?_
      refine zr_idiv F zd_XTexture_mean_55 (by decide) ?_
      refine zr_iload F zd_XTexture_mean_56 rfl ?_
      refine zr_ishl F zd_XTexture_mean_58 ?_
      refine zr_ior F zd_XTexture_mean_59 ?_
      obtain ⟨x3, ex3, h⟩ := zoL_s h
      rw [← ex3]
      refine zr_istore F zd_XTexture_mean_60 (by decide) ?_
      refine zr_pcn 62 rfl ?_
      refine zr_iinc (v := (v5 + 8)) F zd_XTexture_mean_62 rfl rfl (by decide) ?_
      refine zr_goto F 6 zd_XTexture_mean_65 (by decide) ?_
      refine zr_loc (L' := [(0, .int v0), (1, .int v1), (2, .int v2), (3, .int v3), (4, .int x3), (5, .int (v5 + 8))]) ⟨rfl, rfl, rfl, rfl, rfl, rfl, trivial⟩ ?_
      exact ih _ _ _ _ _ _ _ _ h hx0
def F_XTexture_mean (sh : zSh) (mm : zMem) (x0_ : Int32) (x1_ : Int32) (x2_ : Int32) (x3_ : Int32) : Option (Int32 × zMem) := Option.bind (L_XTexture_mean_6 sh zfuel x0_ x1_ x2_ x3_ 0 0 mm) (fun q4 => some (q4.2.2.2.2.1, q4.2.2.2.2.2.2))
set_option maxHeartbeats 4000000 in
set_option maxRecDepth 100000 in
theorem k_XTexture_mean (l : Launch) (D : va_G) (tA : Nat → ClassId) (b : Nat) (sh : zSh) (n : Nat) {mm : zMem} {x0_ : Int32} {x1_ : Int32} {x2_ : Int32} {x3_ : Int32} {r : (Int32 × zMem)} (h : F_XTexture_mean sh mm x0_ x1_ x2_ x3_ = some r) : zM l D tA b zy_XTexture_mean zb_XTexture_mean 7 (some .int) 0 0 0 0 [.int x0_, .int x1_, .int x2_, .int x3_] (zW tA b sh mm) n (zE (some (.int (r.1))) (zW tA b sh r.2) n) := by
  unfold F_XTexture_mean at h
  refine zM_of (own := "OrreryBox$Texture") (plainFor_of_name (by decide)) rfl (Nat.le_of_ble_eq_true rfl) (fun p e s m below meth c F hr hin hH => ?_)
  refine zr_iconstv (v := 0) F zd_XTexture_mean_0 (by decide) ?_
  refine zr_istore F zd_XTexture_mean_1 (by decide) ?_
  refine zr_iconstv (v := 0) F zd_XTexture_mean_3 (by decide) ?_
  refine zr_istore F zd_XTexture_mean_4 (by decide) ?_
  obtain ⟨q4, eq4, h⟩ := zoB_s h
  refine zr_loc (L' := [(0, .int x0_), (1, .int x1_), (2, .int x2_), (3, .int x3_), (4, .int 0), (5, .int 0)]) ⟨rfl, rfl, rfl, rfl, rfl, rfl, trivial⟩ ?_
  refine lp_XTexture_mean_6 F _ _ _ _ _ _ _ _ _ eq4 ?_
  ·
    refine zr_iload F zd_XTexture_mean_68 rfl ?_
    obtain rfl := Option.some.inj h
    exact zr_iret F hr zd_XTexture_mean_70 (Nat.le_of_ble_eq_true rfl) (Nat.le_of_ble_eq_true rfl) ⟨rfl, rfl, rfl⟩
abbrev zb_XTexture_levelFor : ByteArray := prog_11_method_5_code
def zy_XTexture_levelFor : MethodName := ⟨"OrreryBox$Texture", "levelFor", "(JJ)I"⟩
theorem zc_XTexture_levelFor : Cond.code zy_XTexture_levelFor zb_XTexture_levelFor 10 (some .int) ∈ gw := gw_t 814 (by decide +kernel) rfl
theorem zq_XTexture_levelFor : zy_XTexture_levelFor.cls ≠ "java/lang/invoke/MethodHandle" ∧ zy_XTexture_levelFor.cls ≠ "java/lang/invoke/VarHandle" ∧ (parseMethodDescriptor zy_XTexture_levelFor.desc).map (fun d => d.parameters.length) = some 2 := by decide +kernel
theorem zd_XTexture_levelFor_0 : decode zb_XTexture_levelFor 0 = .ok (.lload_n 1, 1) := by decide +kernel
theorem zd_XTexture_levelFor_1 : decode zb_XTexture_levelFor 1 = .ok (.aload_n 0, 1) := by decide +kernel
theorem zd_XTexture_levelFor_2 : decode zb_XTexture_levelFor 2 = .ok (.getfield 16, 3) := by decide +kernel
theorem zd_XTexture_levelFor_5 : decode zb_XTexture_levelFor 5 = .ok (.i2l, 1) := by decide +kernel
theorem zd_XTexture_levelFor_6 : decode zb_XTexture_levelFor 6 = .ok (.lmul, 1) := by decide +kernel
theorem zd_XTexture_levelFor_7 : decode zb_XTexture_levelFor 7 = .ok (.aload_n 0, 1) := by decide +kernel
theorem zd_XTexture_levelFor_8 : decode zb_XTexture_levelFor 8 = .ok (.getfield 16, 3) := by decide +kernel
theorem zd_XTexture_levelFor_11 : decode zb_XTexture_levelFor 11 = .ok (.i2l, 1) := by decide +kernel
theorem zd_XTexture_levelFor_12 : decode zb_XTexture_levelFor 12 = .ok (.lmul, 1) := by decide +kernel
theorem zd_XTexture_levelFor_13 : decode zb_XTexture_levelFor 13 = .ok (.lstore 5, 2) := by decide +kernel
theorem zd_XTexture_levelFor_15 : decode zb_XTexture_levelFor 15 = .ok (.lload_n 3, 1) := by decide +kernel
theorem zd_XTexture_levelFor_16 : decode zb_XTexture_levelFor 16 = .ok (.ldc2_w 31, 3) := by decide +kernel
theorem zd_XTexture_levelFor_19 : decode zb_XTexture_levelFor 19 = .ok (.lmul, 1) := by decide +kernel
theorem zd_XTexture_levelFor_20 : decode zb_XTexture_levelFor 20 = .ok (.lstore 7, 2) := by decide +kernel
theorem zd_XTexture_levelFor_22 : decode zb_XTexture_levelFor 22 = .ok (.iconst 0, 1) := by decide +kernel
theorem zd_XTexture_levelFor_23 : decode zb_XTexture_levelFor 23 = .ok (.istore 9, 2) := by decide +kernel
theorem zd_XTexture_levelFor_25 : decode zb_XTexture_levelFor 25 = .ok (.iload 9, 2) := by decide +kernel
theorem zd_XTexture_levelFor_27 : decode zb_XTexture_levelFor 27 = .ok (.aload_n 0, 1) := by decide +kernel
theorem zd_XTexture_levelFor_28 : decode zb_XTexture_levelFor 28 = .ok (.getfield 20, 3) := by decide +kernel
theorem zd_XTexture_levelFor_31 : decode zb_XTexture_levelFor 31 = .ok (.if_icmp .ge 25, 3) := by decide +kernel
theorem zd_XTexture_levelFor_34 : decode zb_XTexture_levelFor 34 = .ok (.lload 5, 2) := by decide +kernel
theorem zd_XTexture_levelFor_36 : decode zb_XTexture_levelFor 36 = .ok (.lload 7, 2) := by decide +kernel
theorem zd_XTexture_levelFor_38 : decode zb_XTexture_levelFor 38 = .ok (.lcmp, 1) := by decide +kernel
theorem zd_XTexture_levelFor_39 : decode zb_XTexture_levelFor 39 = .ok (.ifCond .le 17, 3) := by decide +kernel
theorem zd_XTexture_levelFor_42 : decode zb_XTexture_levelFor 42 = .ok (.lload 7, 2) := by decide +kernel
theorem zd_XTexture_levelFor_44 : decode zb_XTexture_levelFor 44 = .ok (.ldc2_w 33, 3) := by decide +kernel
theorem zd_XTexture_levelFor_47 : decode zb_XTexture_levelFor 47 = .ok (.lmul, 1) := by decide +kernel
theorem zd_XTexture_levelFor_48 : decode zb_XTexture_levelFor 48 = .ok (.lstore 7, 2) := by decide +kernel
theorem zd_XTexture_levelFor_50 : decode zb_XTexture_levelFor 50 = .ok (.iinc 9 1, 3) := by decide +kernel
theorem zd_XTexture_levelFor_53 : decode zb_XTexture_levelFor 53 = .ok (.goto (-28), 3) := by decide +kernel
theorem zd_XTexture_levelFor_56 : decode zb_XTexture_levelFor 56 = .ok (.iload 9, 2) := by decide +kernel
theorem zd_XTexture_levelFor_58 : decode zb_XTexture_levelFor 58 = .ok (.ireturn, 1) := by decide +kernel
theorem zw_148 : (Jvm.Cond.fieldLink "OrreryBox$Texture" (16 : Nat) "OrreryBox$Texture" "side" "I") ∈ gw := gw_t 148 (by decide +kernel) rfl
theorem zw_815 : (Jvm.Cond.constantLong "OrreryBox$Texture" (31 : Nat) (16777216 : Int64)) ∈ gw := gw_t 815 (by decide +kernel) rfl
theorem zw_154 : (Jvm.Cond.fieldLink "OrreryBox$Texture" (20 : Nat) "OrreryBox$Texture" "last" "I") ∈ gw := gw_t 154 (by decide +kernel) rfl
theorem zw_816 : (Jvm.Cond.constantLong "OrreryBox$Texture" (33 : Nat) (4 : Int64)) ∈ gw := gw_t 816 (by decide +kernel) rfl
def L_XTexture_levelFor_25 (sh : zSh) (fuel : Nat) (v0 : Nat) (v5 : Int64) (v7 : Int64) (v9 : Int32) (mm : zMem) : Option (Nat × Int64 × Int64 × Int32 × zMem) := match fuel with
  | 0 => none
  | fu + 1 => zoS (sh v0) 10 (fun le8 => (if (mm.1 v0 3) ≤ v9 then some (v0, v5, v7, v9, mm) else (if (lg_cmp v5 v7) ≤ 0 then some (v0, v5, v7, v9, mm) else zoL (v7 * 4) (fun x11 => L_XTexture_levelFor_25 sh fu v0 v5 x11 (v9 + 1) mm))))
set_option maxHeartbeats 4000000 in
set_option maxRecDepth 100000 in
theorem lp_XTexture_levelFor_25 {p : Program} {l : Launch} {e : Env} {s : State} {m : MethodId} {args : Array Value} {below : List Frame} {meth : Method} {c : Code} {D : va_G} {tA : Nat → ClassId} {b n : Nat} {post : Option Value → zV → Nat → Prop} {sh : zSh} (F : zF p s m args meth c zb_XTexture_levelFor 10 "OrreryBox$Texture" D tA b) : ∀ (fuel : Nat) (v0 : Nat) (v5 : Int64) (v7 : Int64) (v9 : Int32) (mm : zMem) (r : Nat × Int64 × Int64 × Int32 × zMem), L_XTexture_levelFor_25 sh fuel v0 v5 v7 v9 mm = some r → (Z p l e { frames := 0, cells := 0, slots := 0, locals := 0 } s m args below meth c D b 10 (MQ below (zQ D b post) args s 0 0 (fun q => b ≤ q)) (zW tA b sh r.2.2.2.2) n 0 0 56 [(0, .ref (b + (r.1))), (5, .long (r.2.1)), (7, .long (r.2.2.1)), (9, .int (r.2.2.2.1))] []) → Z p l e { frames := 0, cells := 0, slots := 0, locals := 0 } s m args below meth c D b 10 (MQ below (zQ D b post) args s 0 0 (fun q => b ≤ q)) (zW tA b sh mm) n 0 0 25 [(0, .ref (b + v0)), (5, .long v5), (7, .long v7), (9, .int v9)] [] := by
  intro fuel
  induction fuel with
  | zero =>
    intro v0 v5 v7 v9 mm r h
    cases h
  | succ fu ih =>
    intro v0 v5 v7 v9 mm r h hx0
    rw [L_XTexture_levelFor_25] at h
    refine zr_iload F zd_XTexture_levelFor_25 rfl ?_
    refine zr_aload_n F zd_XTexture_levelFor_27 rfl ?_
    obtain ⟨le8, hs7, h⟩ := zoS_s h
    refine zr_get F 10 3 zd_XTexture_levelFor_28 (zW_o hs7 (by decide)) rfl (by decide) zw_154 rfl (by rfl) ?_
    refine zr_icmp_ge F 56 zd_XTexture_levelFor_31 (by decide) (fun hb9 => ?_) (fun hb9 => ?_)
    ·
      rw [if_pos hb9] at h
      obtain rfl := Option.some.inj h
      refine zr_loc (L' := [(0, .ref (b + v0)), (5, .long v5), (7, .long v7), (9, .int v9)]) ⟨rfl, rfl, rfl, rfl, trivial⟩ ?_
      exact hx0 
    ·
      rw [if_neg hb9] at h
      refine zr_lload F zd_XTexture_levelFor_34 rfl ?_
      refine zr_lload F zd_XTexture_levelFor_36 rfl ?_
      refine zr_lcmp F zd_XTexture_levelFor_38 ?_
      refine zr_pcn 39 rfl ?_
      refine zr_if_le F 56 zd_XTexture_levelFor_39 (by decide) (fun hb10 => ?_) (fun hb10 => ?_)
      ·
        rw [if_pos hb10] at h
        obtain rfl := Option.some.inj h
        refine zr_loc (L' := [(0, .ref (b + v0)), (5, .long v5), (7, .long v7), (9, .int v9)]) ⟨rfl, rfl, rfl, rfl, trivial⟩ ?_
        exact hx0 
      ·
        rw [if_neg hb10] at h
        refine zr_lload F zd_XTexture_levelFor_42 rfl ?_
        refine zr_ldc2 F zd_XTexture_levelFor_44 zw_816 ?_
        refine zr_lmul F zd_XTexture_levelFor_47 ?_
        obtain ⟨x11, ex11, h⟩ := zoL_s h
        rw [← ex11]
        refine zr_lstore F zd_XTexture_levelFor_48 (by decide) ?_
        refine zr_iinc (v := (v9 + 1)) F zd_XTexture_levelFor_50 rfl rfl (by decide) ?_
        refine zr_goto F 25 zd_XTexture_levelFor_53 (by decide) ?_
        refine zr_loc (L' := [(0, .ref (b + v0)), (5, .long v5), (7, .long x11), (9, .int (v9 + 1))]) ⟨rfl, rfl, rfl, rfl, trivial⟩ ?_
        exact ih _ _ _ _ _ _ h hx0
def F_XTexture_levelFor (sh : zSh) (mm : zMem) (o : Nat) (x0_ : Int64) (x1_ : Int64) : Option (Int32 × zMem) := zoS (sh o) 10 (fun le2 => zoS (sh o) 10 (fun le4 => zoL ((x0_ * (((mm.1 o 0) : Int32).toInt64)) * (((mm.1 o 0) : Int32).toInt64)) (fun x5 => zoL (x1_ * 16777216) (fun x6 => Option.bind (L_XTexture_levelFor_25 sh zfuel o x5 x6 0 mm) (fun q12 => some (q12.2.2.2.1, q12.2.2.2.2))))))
set_option maxHeartbeats 4000000 in
set_option maxRecDepth 100000 in
theorem k_XTexture_levelFor (l : Launch) (D : va_G) (tA : Nat → ClassId) (b : Nat) (sh : zSh) (n : Nat) {mm : zMem} {o : Nat} {x0_ : Int64} {x1_ : Int64} {r : (Int32 × zMem)} (h : F_XTexture_levelFor sh mm o x0_ x1_ = some r) : zM l D tA b zy_XTexture_levelFor zb_XTexture_levelFor 10 (some .int) 0 0 0 0 [.ref (b + o), .long x0_, .long x1_] (zW tA b sh mm) n (zE (some (.int (r.1))) (zW tA b sh r.2) n) := by
  unfold F_XTexture_levelFor at h
  refine zM_of (own := "OrreryBox$Texture") (plainFor_of_name (by decide)) rfl (Nat.le_of_ble_eq_true rfl) (fun p e s m below meth c F hr hin hH => ?_)
  refine zr_lload_n F zd_XTexture_levelFor_0 rfl ?_
  refine zr_aload_n F zd_XTexture_levelFor_1 rfl ?_
  obtain ⟨le2, hs1, h⟩ := zoS_s h
  refine zr_get F 10 0 zd_XTexture_levelFor_2 (zW_o hs1 (by decide)) rfl (by decide) zw_148 rfl (by rfl) ?_
  refine zr_i2l F zd_XTexture_levelFor_5 ?_
  refine zr_lmul F zd_XTexture_levelFor_6 ?_
  refine zr_aload_n F zd_XTexture_levelFor_7 rfl ?_
  obtain ⟨le4, hs3, h⟩ := zoS_s h
  refine zr_get F 10 0 zd_XTexture_levelFor_8 (zW_o hs3 (by decide)) rfl (by decide) zw_148 rfl (by rfl) ?_
  refine zr_pcn 11 rfl ?_
  refine zr_i2l F zd_XTexture_levelFor_11 ?_
  refine zr_lmul F zd_XTexture_levelFor_12 ?_
  obtain ⟨x5, ex5, h⟩ := zoL_s h
  rw [← ex5]
  refine zr_lstore F zd_XTexture_levelFor_13 (by decide) ?_
  refine zr_lload_n F zd_XTexture_levelFor_15 rfl ?_
  refine zr_ldc2 F zd_XTexture_levelFor_16 zw_815 ?_
  refine zr_lmul F zd_XTexture_levelFor_19 ?_
  obtain ⟨x6, ex6, h⟩ := zoL_s h
  rw [← ex6]
  refine zr_lstore F zd_XTexture_levelFor_20 (by decide) ?_
  refine zr_iconstv (v := 0) F zd_XTexture_levelFor_22 (by decide) ?_
  refine zr_pcn 23 rfl ?_
  refine zr_istore F zd_XTexture_levelFor_23 (by decide) ?_
  obtain ⟨q12, eq12, h⟩ := zoB_s h
  refine zr_loc (L' := [(0, .ref (b + o)), (5, .long x5), (7, .long x6), (9, .int 0)]) ⟨rfl, rfl, rfl, rfl, trivial⟩ ?_
  refine lp_XTexture_levelFor_25 F _ _ _ _ _ _ _ eq12 ?_
  ·
    refine zr_iload F zd_XTexture_levelFor_56 rfl ?_
    refine zr_pcn 58 rfl ?_
    obtain rfl := Option.some.inj h
    exact zr_iret F hr zd_XTexture_levelFor_58 (Nat.le_of_ble_eq_true rfl) (Nat.le_of_ble_eq_true rfl) ⟨rfl, rfl, rfl⟩
def F_XTexture_wrapped (sh : zSh) (mm : zMem) (o : Nat) (x0_ : Int32) (x1_ : Int32) : Option (Int32 × zMem) := (if x0_ < 0 then zoS (sh o) 10 (fun le3 => (if (mm.1 o 1) = 1 then (if 0 ≤ x0_ then some ((x1_ - 1), mm) else some (0, mm)) else zoS (sh o) 10 (fun le6 => (if (mm.1 o 1) = 0 then some ((x0_ &&& (x1_ - 1)), mm) else zoL (x0_ &&& ((2 * x1_) - 1)) (fun x8 => (if x1_ ≤ x8 then some ((((2 * x1_) - 1) - x8), mm) else some (x8, mm))))))) else (if x1_ ≤ x0_ then zoS (sh o) 10 (fun le13 => (if (mm.1 o 1) = 1 then (if 0 ≤ x0_ then some ((x1_ - 1), mm) else some (0, mm)) else zoS (sh o) 10 (fun le16 => (if (mm.1 o 1) = 0 then some ((x0_ &&& (x1_ - 1)), mm) else zoL (x0_ &&& ((2 * x1_) - 1)) (fun x18 => (if x1_ ≤ x18 then some ((((2 * x1_) - 1) - x18), mm) else some (x18, mm))))))) else some (x0_, mm)))
set_option maxHeartbeats 4000000 in
set_option maxRecDepth 100000 in
theorem k_XTexture_wrapped (l : Launch) (D : va_G) (tA : Nat → ClassId) (b : Nat) (sh : zSh) (n : Nat) {mm : zMem} {o : Nat} {x0_ : Int32} {x1_ : Int32} {r : (Int32 × zMem)} (h : F_XTexture_wrapped sh mm o x0_ x1_ = some r) : zM l D tA b zy_XTexture_wrapped zb_XTexture_wrapped 4 (some .int) 0 0 0 0 [.ref (b + o), .int x0_, .int x1_] (zW tA b sh mm) n (zE (some (.int (r.1))) (zW tA b sh r.2) n) := by
  unfold F_XTexture_wrapped at h
  refine zM_of (own := "OrreryBox$Texture") (plainFor_of_name (by decide)) rfl (Nat.le_of_ble_eq_true rfl) (fun p e s m below meth c F hr hin hH => ?_)
  refine zr_iload_n F zd_XTexture_wrapped_0 rfl ?_
  refine zr_if_lt F 11 zd_XTexture_wrapped_1 (by decide) (fun hb1 => ?_) (fun hb1 => ?_)
  ·
    rw [if_pos hb1] at h
    refine zr_aload_n F zd_XTexture_wrapped_11 rfl ?_
    obtain ⟨le3, hs2, h⟩ := zoS_s h
    refine zr_get F 10 1 zd_XTexture_wrapped_12 (zW_o hs2 (by decide)) rfl (by decide) zw_151 rfl (by rfl) ?_
    refine zr_iconstv (v := 1) F zd_XTexture_wrapped_15 (by decide) ?_
    refine zr_icmp_ne F 31 zd_XTexture_wrapped_16 (by decide) (fun hb4 => ?_) (fun hb4 => ?_)
    ·
      rw [if_neg hb4] at h
      refine zr_aload_n F zd_XTexture_wrapped_31 rfl ?_
      refine zr_pcn 32 rfl ?_
      obtain ⟨le6, hs5, h⟩ := zoS_s h
      refine zr_get F 10 1 zd_XTexture_wrapped_32 (zW_o hs5 (by decide)) rfl (by decide) zw_151 rfl (by rfl) ?_
      refine zr_if_ne F 44 zd_XTexture_wrapped_35 (by decide) (fun hb7 => ?_) (fun hb7 => ?_)
      ·
        rw [if_neg hb7] at h
        refine zr_iload_n F zd_XTexture_wrapped_44 rfl ?_
        refine zr_iconstv (v := 2) F zd_XTexture_wrapped_45 (by decide) ?_
        refine zr_iload_n F zd_XTexture_wrapped_46 rfl ?_
        refine zr_imul F zd_XTexture_wrapped_47 ?_
        refine zr_iconstv (v := 1) F zd_XTexture_wrapped_48 (by decide) ?_
        refine zr_isub F zd_XTexture_wrapped_49 ?_
        refine zr_pcn 50 rfl ?_
        refine zr_iand F zd_XTexture_wrapped_50 ?_
        obtain ⟨x8, ex8, h⟩ := zoL_s h
        rw [← ex8]
        refine zr_istore_n F zd_XTexture_wrapped_51 (by decide) ?_
        refine zr_iload_n F zd_XTexture_wrapped_52 rfl ?_
        refine zr_iload_n F zd_XTexture_wrapped_53 rfl ?_
        refine zr_icmp_ge F 61 zd_XTexture_wrapped_54 (by decide) (fun hb9 => ?_) (fun hb9 => ?_)
        ·
          rw [if_pos hb9] at h
          refine zr_iconstv (v := 2) F zd_XTexture_wrapped_61 (by decide) ?_
          refine zr_iload_n F zd_XTexture_wrapped_62 rfl ?_
          refine zr_imul F zd_XTexture_wrapped_63 ?_
          refine zr_pcn 64 rfl ?_
          refine zr_iconstv (v := 1) F zd_XTexture_wrapped_64 (by decide) ?_
          refine zr_isub F zd_XTexture_wrapped_65 ?_
          refine zr_iload_n F zd_XTexture_wrapped_66 rfl ?_
          refine zr_isub F zd_XTexture_wrapped_67 ?_
          obtain rfl := Option.some.inj h
          exact zr_iret F hr zd_XTexture_wrapped_68 (Nat.le_of_ble_eq_true rfl) (Nat.le_of_ble_eq_true rfl) ⟨rfl, rfl, rfl⟩
        ·
          rw [if_neg hb9] at h
          refine zr_iload_n F zd_XTexture_wrapped_57 rfl ?_
          refine zr_goto F 68 zd_XTexture_wrapped_58 (by decide) ?_
          obtain rfl := Option.some.inj h
          exact zr_iret F hr zd_XTexture_wrapped_68 (Nat.le_of_ble_eq_true rfl) (Nat.le_of_ble_eq_true rfl) ⟨rfl, rfl, rfl⟩
      ·
        rw [if_pos hb7] at h
        refine zr_pcn 38 rfl ?_
        refine zr_iload_n F zd_XTexture_wrapped_38 rfl ?_
        refine zr_iload_n F zd_XTexture_wrapped_39 rfl ?_
        refine zr_iconstv (v := 1) F zd_XTexture_wrapped_40 (by decide) ?_
        refine zr_isub F zd_XTexture_wrapped_41 ?_
        refine zr_iand F zd_XTexture_wrapped_42 ?_
        obtain rfl := Option.some.inj h
        exact zr_iret F hr zd_XTexture_wrapped_43 (Nat.le_of_ble_eq_true rfl) (Nat.le_of_ble_eq_true rfl) ⟨rfl, rfl, rfl⟩
    ·
      rw [if_pos hb4] at h
      refine zr_iload_n F zd_XTexture_wrapped_19 rfl ?_
      refine zr_if_ge F 27 zd_XTexture_wrapped_20 (by decide) (fun hb10 => ?_) (fun hb10 => ?_)
      ·
        rw [if_pos hb10] at h
        refine zr_pcn 27 rfl ?_
        refine zr_iload_n F zd_XTexture_wrapped_27 rfl ?_
        refine zr_iconstv (v := 1) F zd_XTexture_wrapped_28 (by decide) ?_
        refine zr_isub F zd_XTexture_wrapped_29 ?_
        obtain rfl := Option.some.inj h
        exact zr_iret F hr zd_XTexture_wrapped_30 (Nat.le_of_ble_eq_true rfl) (Nat.le_of_ble_eq_true rfl) ⟨rfl, rfl, rfl⟩
      ·
        rw [if_neg hb10] at h
        refine zr_iconstv (v := 0) F zd_XTexture_wrapped_23 (by decide) ?_
        refine zr_goto F 30 zd_XTexture_wrapped_24 (by decide) ?_
        obtain rfl := Option.some.inj h
        exact zr_iret F hr zd_XTexture_wrapped_30 (Nat.le_of_ble_eq_true rfl) (Nat.le_of_ble_eq_true rfl) ⟨rfl, rfl, rfl⟩
  ·
    rw [if_neg hb1] at h
    refine zr_iload_n F zd_XTexture_wrapped_4 rfl ?_
    refine zr_pcn 5 rfl ?_
    refine zr_iload_n F zd_XTexture_wrapped_5 rfl ?_
    refine zr_icmp_ge F 11 zd_XTexture_wrapped_6 (by decide) (fun hb11 => ?_) (fun hb11 => ?_)
    ·
      rw [if_pos hb11] at h
      refine zr_aload_n F zd_XTexture_wrapped_11 rfl ?_
      obtain ⟨le13, hs12, h⟩ := zoS_s h
      refine zr_get F 10 1 zd_XTexture_wrapped_12 (zW_o hs12 (by decide)) rfl (by decide) zw_151 rfl (by rfl) ?_
      refine zr_iconstv (v := 1) F zd_XTexture_wrapped_15 (by decide) ?_
      refine zr_icmp_ne F 31 zd_XTexture_wrapped_16 (by decide) (fun hb14 => ?_) (fun hb14 => ?_)
      ·
        rw [if_neg hb14] at h
        refine zr_aload_n F zd_XTexture_wrapped_31 rfl ?_
        obtain ⟨le16, hs15, h⟩ := zoS_s h
        refine zr_get F 10 1 zd_XTexture_wrapped_32 (zW_o hs15 (by decide)) rfl (by decide) zw_151 rfl (by rfl) ?_
        refine zr_pcn 35 rfl ?_
        refine zr_if_ne F 44 zd_XTexture_wrapped_35 (by decide) (fun hb17 => ?_) (fun hb17 => ?_)
        ·
          rw [if_neg hb17] at h
          refine zr_iload_n F zd_XTexture_wrapped_44 rfl ?_
          refine zr_iconstv (v := 2) F zd_XTexture_wrapped_45 (by decide) ?_
          refine zr_iload_n F zd_XTexture_wrapped_46 rfl ?_
          refine zr_imul F zd_XTexture_wrapped_47 ?_
          refine zr_iconstv (v := 1) F zd_XTexture_wrapped_48 (by decide) ?_
          refine zr_isub F zd_XTexture_wrapped_49 ?_
          refine zr_iand F zd_XTexture_wrapped_50 ?_
          refine zr_pcn 51 rfl ?_
          obtain ⟨x18, ex18, h⟩ := zoL_s h
          rw [← ex18]
          refine zr_istore_n F zd_XTexture_wrapped_51 (by decide) ?_
          refine zr_iload_n F zd_XTexture_wrapped_52 rfl ?_
          refine zr_iload_n F zd_XTexture_wrapped_53 rfl ?_
          refine zr_icmp_ge F 61 zd_XTexture_wrapped_54 (by decide) (fun hb19 => ?_) (fun hb19 => ?_)
          ·
            rw [if_pos hb19] at h
            refine zr_iconstv (v := 2) F zd_XTexture_wrapped_61 (by decide) ?_
            refine zr_iload_n F zd_XTexture_wrapped_62 rfl ?_
            refine zr_imul F zd_XTexture_wrapped_63 ?_
            refine zr_iconstv (v := 1) F zd_XTexture_wrapped_64 (by decide) ?_
            refine zr_pcn 65 rfl ?_
            refine zr_isub F zd_XTexture_wrapped_65 ?_
            refine zr_iload_n F zd_XTexture_wrapped_66 rfl ?_
            refine zr_isub F zd_XTexture_wrapped_67 ?_
            obtain rfl := Option.some.inj h
            exact zr_iret F hr zd_XTexture_wrapped_68 (Nat.le_of_ble_eq_true rfl) (Nat.le_of_ble_eq_true rfl) ⟨rfl, rfl, rfl⟩
          ·
            rw [if_neg hb19] at h
            refine zr_iload_n F zd_XTexture_wrapped_57 rfl ?_
            refine zr_goto F 68 zd_XTexture_wrapped_58 (by decide) ?_
            obtain rfl := Option.some.inj h
            exact zr_iret F hr zd_XTexture_wrapped_68 (Nat.le_of_ble_eq_true rfl) (Nat.le_of_ble_eq_true rfl) ⟨rfl, rfl, rfl⟩
        ·
          rw [if_pos hb17] at h
          refine zr_iload_n F zd_XTexture_wrapped_38 rfl ?_
          refine zr_pcn 39 rfl ?_
          refine zr_iload_n F zd_XTexture_wrapped_39 rfl ?_
          refine zr_iconstv (v := 1) F zd_XTexture_wrapped_40 (by decide) ?_
          refine zr_isub F zd_XTexture_wrapped_41 ?_
          refine zr_iand F zd_XTexture_wrapped_42 ?_
          obtain rfl := Option.some.inj h
          exact zr_iret F hr zd_XTexture_wrapped_43 (Nat.le_of_ble_eq_true rfl) (Nat.le_of_ble_eq_true rfl) ⟨rfl, rfl, rfl⟩
      ·
        rw [if_pos hb14] at h
        refine zr_iload_n F zd_XTexture_wrapped_19 rfl ?_
        refine zr_if_ge F 27 zd_XTexture_wrapped_20 (by decide) (fun hb20 => ?_) (fun hb20 => ?_)
        ·
          rw [if_pos hb20] at h
          refine zr_iload_n F zd_XTexture_wrapped_27 rfl ?_
          refine zr_pcn 28 rfl ?_
          refine zr_iconstv (v := 1) F zd_XTexture_wrapped_28 (by decide) ?_
          refine zr_isub F zd_XTexture_wrapped_29 ?_
          obtain rfl := Option.some.inj h
          exact zr_iret F hr zd_XTexture_wrapped_30 (Nat.le_of_ble_eq_true rfl) (Nat.le_of_ble_eq_true rfl) ⟨rfl, rfl, rfl⟩
        ·
          rw [if_neg hb20] at h
          refine zr_iconstv (v := 0) F zd_XTexture_wrapped_23 (by decide) ?_
          refine zr_goto F 30 zd_XTexture_wrapped_24 (by decide) ?_
          obtain rfl := Option.some.inj h
          exact zr_iret F hr zd_XTexture_wrapped_30 (Nat.le_of_ble_eq_true rfl) (Nat.le_of_ble_eq_true rfl) ⟨rfl, rfl, rfl⟩
    ·
      rw [if_neg hb11] at h
      refine zr_iload_n F zd_XTexture_wrapped_9 rfl ?_
      obtain rfl := Option.some.inj h
      exact zr_iret F hr zd_XTexture_wrapped_10 (Nat.le_of_ble_eq_true rfl) (Nat.le_of_ble_eq_true rfl) ⟨rfl, rfl, rfl⟩
abbrev zb_XTrack_keyAt : ByteArray := prog_12_method_3_code
def zy_XTrack_keyAt : MethodName := ⟨"OrreryBox$Track", "keyAt", "(I)I"⟩
theorem zc_XTrack_keyAt : Cond.code zy_XTrack_keyAt zb_XTrack_keyAt 4 (some .int) ∈ gw := gw_t 564 (by decide +kernel) rfl
theorem zq_XTrack_keyAt : zy_XTrack_keyAt.cls ≠ "java/lang/invoke/MethodHandle" ∧ zy_XTrack_keyAt.cls ≠ "java/lang/invoke/VarHandle" ∧ (parseMethodDescriptor zy_XTrack_keyAt.desc).map (fun d => d.parameters.length) = some 1 := by decide +kernel
theorem zd_XTrack_keyAt_0 : decode zb_XTrack_keyAt 0 = .ok (.iconst (-1), 1) := by decide +kernel
theorem zd_XTrack_keyAt_1 : decode zb_XTrack_keyAt 1 = .ok (.istore_n 2, 1) := by decide +kernel
theorem zd_XTrack_keyAt_2 : decode zb_XTrack_keyAt 2 = .ok (.iconst 0, 1) := by decide +kernel
theorem zd_XTrack_keyAt_3 : decode zb_XTrack_keyAt 3 = .ok (.istore_n 3, 1) := by decide +kernel
theorem zd_XTrack_keyAt_4 : decode zb_XTrack_keyAt 4 = .ok (.iload_n 3, 1) := by decide +kernel
theorem zd_XTrack_keyAt_5 : decode zb_XTrack_keyAt 5 = .ok (.aload_n 0, 1) := by decide +kernel
theorem zd_XTrack_keyAt_6 : decode zb_XTrack_keyAt 6 = .ok (.getfield 30, 3) := by decide +kernel
theorem zd_XTrack_keyAt_9 : decode zb_XTrack_keyAt 9 = .ok (.if_icmp .ge 21, 3) := by decide +kernel
theorem zd_XTrack_keyAt_12 : decode zb_XTrack_keyAt 12 = .ok (.aload_n 0, 1) := by decide +kernel
theorem zd_XTrack_keyAt_13 : decode zb_XTrack_keyAt 13 = .ok (.getfield 9, 3) := by decide +kernel
theorem zd_XTrack_keyAt_16 : decode zb_XTrack_keyAt 16 = .ok (.iload_n 3, 1) := by decide +kernel
theorem zd_XTrack_keyAt_17 : decode zb_XTrack_keyAt 17 = .ok (.iaload, 1) := by decide +kernel
theorem zd_XTrack_keyAt_18 : decode zb_XTrack_keyAt 18 = .ok (.iload_n 1, 1) := by decide +kernel
theorem zd_XTrack_keyAt_19 : decode zb_XTrack_keyAt 19 = .ok (.if_icmp .gt 11, 3) := by decide +kernel
theorem zd_XTrack_keyAt_22 : decode zb_XTrack_keyAt 22 = .ok (.iload_n 3, 1) := by decide +kernel
theorem zd_XTrack_keyAt_23 : decode zb_XTrack_keyAt 23 = .ok (.istore_n 2, 1) := by decide +kernel
theorem zd_XTrack_keyAt_24 : decode zb_XTrack_keyAt 24 = .ok (.iinc 3 1, 3) := by decide +kernel
theorem zd_XTrack_keyAt_27 : decode zb_XTrack_keyAt 27 = .ok (.goto (-23), 3) := by decide +kernel
theorem zd_XTrack_keyAt_30 : decode zb_XTrack_keyAt 30 = .ok (.iload_n 2, 1) := by decide +kernel
theorem zd_XTrack_keyAt_31 : decode zb_XTrack_keyAt 31 = .ok (.ireturn, 1) := by decide +kernel
theorem zw_257 : (Jvm.Cond.fieldLink "OrreryBox$Track" (30 : Nat) "OrreryBox$Track" "keys" "I") ∈ gw := gw_t 257 (by decide +kernel) rfl
def L_XTrack_keyAt_4 (sh : zSh) (fuel : Nat) (v0 : Nat) (v1 : Int32) (v2 : Int32) (v3 : Int32) (mm : zMem) : Option (Nat × Int32 × Int32 × Int32 × zMem) := match fuel with
  | 0 => none
  | fu + 1 => zoS (sh v0) 11 (fun le2 => (if (mm.1 v0 3) ≤ v3 then some (v0, v1, v2, v3, mm) else zoS (sh v0) 11 (fun le5 => Option.bind (mm.2.2 v0 4) (fun a6 => zoS (sh a6) 100 (fun le8 => if (v3 : Int32) < 0 ∨ le8 ≤ (v3 : Int32).toNatClampNeg then none else (if v1 < (mm.1 a6 (v3 : Int32).toNatClampNeg) then some (v0, v1, v2, v3, mm) else L_XTrack_keyAt_4 sh fu v0 v1 v3 (v3 + 1) mm))))))
set_option maxHeartbeats 4000000 in
set_option maxRecDepth 100000 in
theorem lp_XTrack_keyAt_4 {p : Program} {l : Launch} {e : Env} {s : State} {m : MethodId} {args : Array Value} {below : List Frame} {meth : Method} {c : Code} {D : va_G} {tA : Nat → ClassId} {b n : Nat} {post : Option Value → zV → Nat → Prop} {sh : zSh} (F : zF p s m args meth c zb_XTrack_keyAt 4 "OrreryBox$Track" D tA b) : ∀ (fuel : Nat) (v0 : Nat) (v1 : Int32) (v2 : Int32) (v3 : Int32) (mm : zMem) (r : Nat × Int32 × Int32 × Int32 × zMem), L_XTrack_keyAt_4 sh fuel v0 v1 v2 v3 mm = some r → (Z p l e { frames := 0, cells := 0, slots := 0, locals := 0 } s m args below meth c D b 4 (MQ below (zQ D b post) args s 0 0 (fun q => b ≤ q)) (zW tA b sh r.2.2.2.2) n 0 0 30 [(0, .ref (b + (r.1))), (1, .int (r.2.1)), (2, .int (r.2.2.1)), (3, .int (r.2.2.2.1))] []) → Z p l e { frames := 0, cells := 0, slots := 0, locals := 0 } s m args below meth c D b 4 (MQ below (zQ D b post) args s 0 0 (fun q => b ≤ q)) (zW tA b sh mm) n 0 0 4 [(0, .ref (b + v0)), (1, .int v1), (2, .int v2), (3, .int v3)] [] := by
  intro fuel
  induction fuel with
  | zero =>
    intro v0 v1 v2 v3 mm r h
    cases h
  | succ fu ih =>
    intro v0 v1 v2 v3 mm r h hx0
    rw [L_XTrack_keyAt_4] at h
    refine zr_iload_n F zd_XTrack_keyAt_4 rfl ?_
    refine zr_aload_n F zd_XTrack_keyAt_5 rfl ?_
    obtain ⟨le2, hs1, h⟩ := zoS_s h
    refine zr_get F 11 3 zd_XTrack_keyAt_6 (zW_o hs1 (by decide)) rfl (by decide) zw_257 rfl (by rfl) ?_
    refine zr_pcn 9 rfl ?_
    refine zr_icmp_ge F 30 zd_XTrack_keyAt_9 (by decide) (fun hb3 => ?_) (fun hb3 => ?_)
    ·
      rw [if_pos hb3] at h
      obtain rfl := Option.some.inj h
      refine zr_loc (L' := [(0, .ref (b + v0)), (1, .int v1), (2, .int v2), (3, .int v3)]) ⟨rfl, rfl, rfl, rfl, trivial⟩ ?_
      exact hx0 
    ·
      rw [if_neg hb3] at h
      refine zr_aload_n F zd_XTrack_keyAt_12 rfl ?_
      obtain ⟨le5, hs4, h⟩ := zoS_s h
      obtain ⟨a6, ea6, h⟩ := zoB_s h
      refine zr_get F 11 4 zd_XTrack_keyAt_13 (zW_o hs4 (by decide)) rfl (by decide) zw_259 rfl (by rfl) ?_
      refine zr_tor ea6 ?_
      refine zr_iload_n F zd_XTrack_keyAt_16 rfl ?_
      obtain ⟨le8, hs7, h⟩ := zoS_s h
      obtain ⟨hi9, h⟩ := zoI_s h
      refine zr_iald F zd_XTrack_keyAt_17 (zW_a0 hs7) hi9 ?_
      refine zr_iload_n F zd_XTrack_keyAt_18 rfl ?_
      refine zr_icmp_gt F 30 zd_XTrack_keyAt_19 (by decide) (fun hb10 => ?_) (fun hb10 => ?_)
      ·
        rw [if_pos hb10] at h
        obtain rfl := Option.some.inj h
        refine zr_loc (L' := [(0, .ref (b + v0)), (1, .int v1), (2, .int v2), (3, .int v3)]) ⟨rfl, rfl, rfl, rfl, trivial⟩ ?_
        exact hx0 
      ·
        rw [if_neg hb10] at h
        refine zr_iload_n F zd_XTrack_keyAt_22 rfl ?_
        refine zr_pcn 23 rfl ?_
        refine zr_istore_n F zd_XTrack_keyAt_23 (by decide) ?_
        refine zr_iinc (v := (v3 + 1)) F zd_XTrack_keyAt_24 rfl rfl (by decide) ?_
        refine zr_goto F 4 zd_XTrack_keyAt_27 (by decide) ?_
        refine zr_loc (L' := [(0, .ref (b + v0)), (1, .int v1), (2, .int v3), (3, .int (v3 + 1))]) ⟨rfl, rfl, rfl, rfl, trivial⟩ ?_
        exact ih _ _ _ _ _ _ h hx0
def F_XTrack_keyAt (sh : zSh) (mm : zMem) (o : Nat) (x0_ : Int32) : Option (Int32 × zMem) := Option.bind (L_XTrack_keyAt_4 sh zfuel o x0_ (-1) 0 mm) (fun q11 => some (q11.2.2.1, q11.2.2.2.2))
set_option maxHeartbeats 4000000 in
set_option maxRecDepth 100000 in
theorem k_XTrack_keyAt (l : Launch) (D : va_G) (tA : Nat → ClassId) (b : Nat) (sh : zSh) (n : Nat) {mm : zMem} {o : Nat} {x0_ : Int32} {r : (Int32 × zMem)} (h : F_XTrack_keyAt sh mm o x0_ = some r) : zM l D tA b zy_XTrack_keyAt zb_XTrack_keyAt 4 (some .int) 0 0 0 0 [.ref (b + o), .int x0_] (zW tA b sh mm) n (zE (some (.int (r.1))) (zW tA b sh r.2) n) := by
  unfold F_XTrack_keyAt at h
  refine zM_of (own := "OrreryBox$Track") (plainFor_of_name (by decide)) rfl (Nat.le_of_ble_eq_true rfl) (fun p e s m below meth c F hr hin hH => ?_)
  refine zr_iconstv (v := (-1)) F zd_XTrack_keyAt_0 (by decide) ?_
  refine zr_istore_n F zd_XTrack_keyAt_1 (by decide) ?_
  refine zr_iconstv (v := 0) F zd_XTrack_keyAt_2 (by decide) ?_
  refine zr_istore_n F zd_XTrack_keyAt_3 (by decide) ?_
  obtain ⟨q11, eq11, h⟩ := zoB_s h
  refine zr_loc (L' := [(0, .ref (b + o)), (1, .int x0_), (2, .int (-1)), (3, .int 0)]) ⟨rfl, rfl, rfl, rfl, trivial⟩ ?_
  refine lp_XTrack_keyAt_4 F _ _ _ _ _ _ _ eq11 ?_
  ·
    refine zr_iload_n F zd_XTrack_keyAt_30 rfl ?_
    obtain rfl := Option.some.inj h
    exact zr_iret F hr zd_XTrack_keyAt_31 (Nat.le_of_ble_eq_true rfl) (Nat.le_of_ble_eq_true rfl) ⟨rfl, rfl, rfl⟩
abbrev zb_XTrack_valueAt : ByteArray := prog_12_method_4_code
def zy_XTrack_valueAt : MethodName := ⟨"OrreryBox$Track", "valueAt", "(III)I"⟩
theorem zc_XTrack_valueAt : Cond.code zy_XTrack_valueAt zb_XTrack_valueAt 15 (some .int) ∈ gw := gw_t 568 (by decide +kernel) rfl
theorem zq_XTrack_valueAt : zy_XTrack_valueAt.cls ≠ "java/lang/invoke/MethodHandle" ∧ zy_XTrack_valueAt.cls ≠ "java/lang/invoke/VarHandle" ∧ (parseMethodDescriptor zy_XTrack_valueAt.desc).map (fun d => d.parameters.length) = some 3 := by decide +kernel
theorem zd_XTrack_valueAt_0 : decode zb_XTrack_valueAt 0 = .ok (.aload_n 0, 1) := by decide +kernel
theorem zd_XTrack_valueAt_1 : decode zb_XTrack_valueAt 1 = .ok (.getfield 15, 3) := by decide +kernel
theorem zd_XTrack_valueAt_4 : decode zb_XTrack_valueAt 4 = .ok (.iconst 3, 1) := by decide +kernel
theorem zd_XTrack_valueAt_5 : decode zb_XTrack_valueAt 5 = .ok (.iload_n 2, 1) := by decide +kernel
theorem zd_XTrack_valueAt_6 : decode zb_XTrack_valueAt 6 = .ok (.iconst 0, 1) := by decide +kernel
theorem zd_XTrack_valueAt_7 : decode zb_XTrack_valueAt 7 = .ok (.invokestatic 33, 3) := by decide +kernel
theorem zd_XTrack_valueAt_10 : decode zb_XTrack_valueAt 10 = .ok (.imul, 1) := by decide +kernel
theorem zd_XTrack_valueAt_11 : decode zb_XTrack_valueAt 11 = .ok (.iload_n 3, 1) := by decide +kernel
theorem zd_XTrack_valueAt_12 : decode zb_XTrack_valueAt 12 = .ok (.iadd, 1) := by decide +kernel
theorem zd_XTrack_valueAt_13 : decode zb_XTrack_valueAt 13 = .ok (.iaload, 1) := by decide +kernel
theorem zd_XTrack_valueAt_14 : decode zb_XTrack_valueAt 14 = .ok (.istore 4, 2) := by decide +kernel
theorem zd_XTrack_valueAt_16 : decode zb_XTrack_valueAt 16 = .ok (.iload_n 2, 1) := by decide +kernel
theorem zd_XTrack_valueAt_17 : decode zb_XTrack_valueAt 17 = .ok (.ifCond .lt 20, 3) := by decide +kernel
theorem zd_XTrack_valueAt_20 : decode zb_XTrack_valueAt 20 = .ok (.iload_n 2, 1) := by decide +kernel
theorem zd_XTrack_valueAt_21 : decode zb_XTrack_valueAt 21 = .ok (.iconst 1, 1) := by decide +kernel
theorem zd_XTrack_valueAt_22 : decode zb_XTrack_valueAt 22 = .ok (.iadd, 1) := by decide +kernel
theorem zd_XTrack_valueAt_23 : decode zb_XTrack_valueAt 23 = .ok (.aload_n 0, 1) := by decide +kernel
theorem zd_XTrack_valueAt_24 : decode zb_XTrack_valueAt 24 = .ok (.getfield 30, 3) := by decide +kernel
theorem zd_XTrack_valueAt_27 : decode zb_XTrack_valueAt 27 = .ok (.if_icmp .ge 10, 3) := by decide +kernel
theorem zd_XTrack_valueAt_30 : decode zb_XTrack_valueAt 30 = .ok (.aload_n 0, 1) := by decide +kernel
theorem zd_XTrack_valueAt_31 : decode zb_XTrack_valueAt 31 = .ok (.getfield 39, 3) := by decide +kernel
theorem zd_XTrack_valueAt_34 : decode zb_XTrack_valueAt 34 = .ok (.ifCond .ne 6, 3) := by decide +kernel
theorem zd_XTrack_valueAt_37 : decode zb_XTrack_valueAt 37 = .ok (.iload 4, 2) := by decide +kernel
theorem zd_XTrack_valueAt_39 : decode zb_XTrack_valueAt 39 = .ok (.ireturn, 1) := by decide +kernel
theorem zd_XTrack_valueAt_40 : decode zb_XTrack_valueAt 40 = .ok (.aload_n 0, 1) := by decide +kernel
theorem zd_XTrack_valueAt_41 : decode zb_XTrack_valueAt 41 = .ok (.getfield 15, 3) := by decide +kernel
theorem zd_XTrack_valueAt_44 : decode zb_XTrack_valueAt 44 = .ok (.iconst 3, 1) := by decide +kernel
theorem zd_XTrack_valueAt_45 : decode zb_XTrack_valueAt 45 = .ok (.iload_n 2, 1) := by decide +kernel
theorem zd_XTrack_valueAt_46 : decode zb_XTrack_valueAt 46 = .ok (.iconst 1, 1) := by decide +kernel
theorem zd_XTrack_valueAt_47 : decode zb_XTrack_valueAt 47 = .ok (.iadd, 1) := by decide +kernel
theorem zd_XTrack_valueAt_48 : decode zb_XTrack_valueAt 48 = .ok (.imul, 1) := by decide +kernel
theorem zd_XTrack_valueAt_49 : decode zb_XTrack_valueAt 49 = .ok (.iload_n 3, 1) := by decide +kernel
theorem zd_XTrack_valueAt_50 : decode zb_XTrack_valueAt 50 = .ok (.iadd, 1) := by decide +kernel
theorem zd_XTrack_valueAt_51 : decode zb_XTrack_valueAt 51 = .ok (.iaload, 1) := by decide +kernel
theorem zd_XTrack_valueAt_52 : decode zb_XTrack_valueAt 52 = .ok (.iload 4, 2) := by decide +kernel
theorem zd_XTrack_valueAt_54 : decode zb_XTrack_valueAt 54 = .ok (.isub, 1) := by decide +kernel
theorem zd_XTrack_valueAt_55 : decode zb_XTrack_valueAt 55 = .ok (.i2l, 1) := by decide +kernel
theorem zd_XTrack_valueAt_56 : decode zb_XTrack_valueAt 56 = .ok (.lstore 5, 2) := by decide +kernel
theorem zd_XTrack_valueAt_58 : decode zb_XTrack_valueAt 58 = .ok (.iload_n 1, 1) := by decide +kernel
theorem zd_XTrack_valueAt_59 : decode zb_XTrack_valueAt 59 = .ok (.aload_n 0, 1) := by decide +kernel
theorem zd_XTrack_valueAt_60 : decode zb_XTrack_valueAt 60 = .ok (.getfield 9, 3) := by decide +kernel
theorem zd_XTrack_valueAt_63 : decode zb_XTrack_valueAt 63 = .ok (.iload_n 2, 1) := by decide +kernel
theorem zd_XTrack_valueAt_64 : decode zb_XTrack_valueAt 64 = .ok (.iaload, 1) := by decide +kernel
theorem zd_XTrack_valueAt_65 : decode zb_XTrack_valueAt 65 = .ok (.isub, 1) := by decide +kernel
theorem zd_XTrack_valueAt_66 : decode zb_XTrack_valueAt 66 = .ok (.i2l, 1) := by decide +kernel
theorem zd_XTrack_valueAt_67 : decode zb_XTrack_valueAt 67 = .ok (.lstore 7, 2) := by decide +kernel
theorem zd_XTrack_valueAt_69 : decode zb_XTrack_valueAt 69 = .ok (.aload_n 0, 1) := by decide +kernel
theorem zd_XTrack_valueAt_70 : decode zb_XTrack_valueAt 70 = .ok (.getfield 9, 3) := by decide +kernel
theorem zd_XTrack_valueAt_73 : decode zb_XTrack_valueAt 73 = .ok (.iload_n 2, 1) := by decide +kernel
theorem zd_XTrack_valueAt_74 : decode zb_XTrack_valueAt 74 = .ok (.iconst 1, 1) := by decide +kernel
theorem zd_XTrack_valueAt_75 : decode zb_XTrack_valueAt 75 = .ok (.iadd, 1) := by decide +kernel
theorem zd_XTrack_valueAt_76 : decode zb_XTrack_valueAt 76 = .ok (.iaload, 1) := by decide +kernel
theorem zd_XTrack_valueAt_77 : decode zb_XTrack_valueAt 77 = .ok (.aload_n 0, 1) := by decide +kernel
theorem zd_XTrack_valueAt_78 : decode zb_XTrack_valueAt 78 = .ok (.getfield 9, 3) := by decide +kernel
theorem zd_XTrack_valueAt_81 : decode zb_XTrack_valueAt 81 = .ok (.iload_n 2, 1) := by decide +kernel
theorem zd_XTrack_valueAt_82 : decode zb_XTrack_valueAt 82 = .ok (.iaload, 1) := by decide +kernel
theorem zd_XTrack_valueAt_83 : decode zb_XTrack_valueAt 83 = .ok (.isub, 1) := by decide +kernel
theorem zd_XTrack_valueAt_84 : decode zb_XTrack_valueAt 84 = .ok (.i2l, 1) := by decide +kernel
theorem zd_XTrack_valueAt_85 : decode zb_XTrack_valueAt 85 = .ok (.lstore 9, 2) := by decide +kernel
theorem zd_XTrack_valueAt_87 : decode zb_XTrack_valueAt 87 = .ok (.aload_n 0, 1) := by decide +kernel
theorem zd_XTrack_valueAt_88 : decode zb_XTrack_valueAt 88 = .ok (.getfield 39, 3) := by decide +kernel
theorem zd_XTrack_valueAt_91 : decode zb_XTrack_valueAt 91 = .ok (.iconst 1, 1) := by decide +kernel
theorem zd_XTrack_valueAt_92 : decode zb_XTrack_valueAt 92 = .ok (.if_icmp .ne 19, 3) := by decide +kernel
theorem zd_XTrack_valueAt_95 : decode zb_XTrack_valueAt 95 = .ok (.iload 4, 2) := by decide +kernel
theorem zd_XTrack_valueAt_97 : decode zb_XTrack_valueAt 97 = .ok (.i2l, 1) := by decide +kernel
theorem zd_XTrack_valueAt_98 : decode zb_XTrack_valueAt 98 = .ok (.lload 5, 2) := by decide +kernel
theorem zd_XTrack_valueAt_100 : decode zb_XTrack_valueAt 100 = .ok (.lload 7, 2) := by decide +kernel
theorem zd_XTrack_valueAt_102 : decode zb_XTrack_valueAt 102 = .ok (.lmul, 1) := by decide +kernel
theorem zd_XTrack_valueAt_103 : decode zb_XTrack_valueAt 103 = .ok (.lload 9, 2) := by decide +kernel
theorem zd_XTrack_valueAt_105 : decode zb_XTrack_valueAt 105 = .ok (.invokestatic 42, 3) := by decide +kernel
theorem zd_XTrack_valueAt_108 : decode zb_XTrack_valueAt 108 = .ok (.ladd, 1) := by decide +kernel
theorem zd_XTrack_valueAt_109 : decode zb_XTrack_valueAt 109 = .ok (.l2i, 1) := by decide +kernel
theorem zd_XTrack_valueAt_110 : decode zb_XTrack_valueAt 110 = .ok (.ireturn, 1) := by decide +kernel
theorem zd_XTrack_valueAt_111 : decode zb_XTrack_valueAt 111 = .ok (.lload 7, 2) := by decide +kernel
theorem zd_XTrack_valueAt_113 : decode zb_XTrack_valueAt 113 = .ok (.ldc2_w 48, 3) := by decide +kernel
theorem zd_XTrack_valueAt_116 : decode zb_XTrack_valueAt 116 = .ok (.lmul, 1) := by decide +kernel
theorem zd_XTrack_valueAt_117 : decode zb_XTrack_valueAt 117 = .ok (.lload 9, 2) := by decide +kernel
theorem zd_XTrack_valueAt_119 : decode zb_XTrack_valueAt 119 = .ok (.invokestatic 42, 3) := by decide +kernel
theorem zd_XTrack_valueAt_122 : decode zb_XTrack_valueAt 122 = .ok (.lstore 11, 2) := by decide +kernel
theorem zd_XTrack_valueAt_124 : decode zb_XTrack_valueAt 124 = .ok (.lload 11, 2) := by decide +kernel
theorem zd_XTrack_valueAt_126 : decode zb_XTrack_valueAt 126 = .ok (.lload 11, 2) := by decide +kernel
theorem zd_XTrack_valueAt_128 : decode zb_XTrack_valueAt 128 = .ok (.invokestatic 50, 3) := by decide +kernel
theorem zd_XTrack_valueAt_131 : decode zb_XTrack_valueAt 131 = .ok (.ldc2_w 53, 3) := by decide +kernel
theorem zd_XTrack_valueAt_134 : decode zb_XTrack_valueAt 134 = .ok (.ldc2_w 55, 3) := by decide +kernel
theorem zd_XTrack_valueAt_137 : decode zb_XTrack_valueAt 137 = .ok (.lload 11, 2) := by decide +kernel
theorem zd_XTrack_valueAt_139 : decode zb_XTrack_valueAt 139 = .ok (.lmul, 1) := by decide +kernel
theorem zd_XTrack_valueAt_140 : decode zb_XTrack_valueAt 140 = .ok (.lsub, 1) := by decide +kernel
theorem zd_XTrack_valueAt_141 : decode zb_XTrack_valueAt 141 = .ok (.invokestatic 50, 3) := by decide +kernel
theorem zd_XTrack_valueAt_144 : decode zb_XTrack_valueAt 144 = .ok (.lstore 13, 2) := by decide +kernel
theorem zd_XTrack_valueAt_146 : decode zb_XTrack_valueAt 146 = .ok (.iload 4, 2) := by decide +kernel
theorem zd_XTrack_valueAt_148 : decode zb_XTrack_valueAt 148 = .ok (.i2l, 1) := by decide +kernel
theorem zd_XTrack_valueAt_149 : decode zb_XTrack_valueAt 149 = .ok (.lload 5, 2) := by decide +kernel
theorem zd_XTrack_valueAt_151 : decode zb_XTrack_valueAt 151 = .ok (.lload 13, 2) := by decide +kernel
theorem zd_XTrack_valueAt_153 : decode zb_XTrack_valueAt 153 = .ok (.invokestatic 50, 3) := by decide +kernel
theorem zd_XTrack_valueAt_156 : decode zb_XTrack_valueAt 156 = .ok (.ladd, 1) := by decide +kernel
theorem zd_XTrack_valueAt_157 : decode zb_XTrack_valueAt 157 = .ok (.l2i, 1) := by decide +kernel
theorem zd_XTrack_valueAt_158 : decode zb_XTrack_valueAt 158 = .ok (.ireturn, 1) := by decide +kernel
theorem zw_569 : (Jvm.Cond.methodLink "OrreryBox$Track" (33 : Nat) ({ cls := "java/lang/Math", name := "max", desc := "(II)I" } : Jvm.MethodName)) ∈ gw := gw_t 569 (by decide +kernel) rfl
theorem zs_XTrack_33 : zwS "OrreryBox$Track" 33 zy_JMath_max zb_JMath_max 2 (some .int) := ⟨zw_569, zw_124, zw_4, zc_JMath_max⟩
theorem zw_255 : (Jvm.Cond.fieldLink "OrreryBox$Track" (39 : Nat) "OrreryBox$Track" "how" "I") ∈ gw := gw_t 255 (by decide +kernel) rfl
theorem zw_576 : (Jvm.Cond.constantLong "OrreryBox$Track" (48 : Nat) (65536 : Int64)) ∈ gw := gw_t 576 (by decide +kernel) rfl
theorem zw_570 : (Jvm.Cond.methodLink "OrreryBox$Track" (42 : Nat) ({ cls := "OrreryBox$Fixed", name := "div", desc := "(JJ)J" } : Jvm.MethodName)) ∈ gw := gw_t 570 (by decide +kernel) rfl
theorem zs_XTrack_42 : zwS "OrreryBox$Track" 42 zy_XFixed_div zb_XFixed_div 4 (some .long) := ⟨zw_570, zw_571, zw_27, zc_XFixed_div⟩
theorem zw_577 : (Jvm.Cond.methodLink "OrreryBox$Track" (50 : Nat) ({ cls := "OrreryBox$Fixed", name := "mul", desc := "(JJ)J" } : Jvm.MethodName)) ∈ gw := gw_t 577 (by decide +kernel) rfl
theorem zs_XTrack_50 : zwS "OrreryBox$Track" 50 zy_XFixed_mul zb_XFixed_mul 4 (some .long) := ⟨zw_577, zw_578, zw_27, zc_XFixed_mul⟩
theorem zw_580 : (Jvm.Cond.constantLong "OrreryBox$Track" (53 : Nat) (196608 : Int64)) ∈ gw := gw_t 580 (by decide +kernel) rfl
theorem zw_581 : (Jvm.Cond.constantLong "OrreryBox$Track" (55 : Nat) (2 : Int64)) ∈ gw := gw_t 581 (by decide +kernel) rfl
def F_XTrack_valueAt (sh : zSh) (mm : zMem) (o : Nat) (x0_ : Int32) (x1_ : Int32) (x2_ : Int32) : Option (Int32 × zMem) := zoS (sh o) 11 (fun le2 => Option.bind (mm.2.2 o 5) (fun a3 => zoL ((3 * (zx_max x1_ 0)) + x2_) (fun i5 => zoS (sh a3) 100 (fun le7 => if (i5 : Int32) < 0 ∨ le7 ≤ (i5 : Int32).toNatClampNeg then none else zoL (mm.1 a3 (i5 : Int32).toNatClampNeg) (fun x9 => (if x1_ < 0 then some (x9, mm) else zoS (sh o) 11 (fun le12 => (if (mm.1 o 3) ≤ (x1_ + 1) then some (x9, mm) else zoS (sh o) 11 (fun le15 => (if (mm.1 o 2) = 0 then some (x9, mm) else zoS (sh o) 11 (fun le18 => Option.bind (mm.2.2 o 5) (fun a19 => zoL ((3 * (x1_ + 1)) + x2_) (fun i20 => zoS (sh a19) 100 (fun le22 => if (i20 : Int32) < 0 ∨ le22 ≤ (i20 : Int32).toNatClampNeg then none else zoL ((((mm.1 a19 (i20 : Int32).toNatClampNeg) - x9) : Int32).toInt64) (fun x24 => zoS (sh o) 11 (fun le26 => Option.bind (mm.2.2 o 4) (fun a27 => zoS (sh a27) 100 (fun le29 => if (x1_ : Int32) < 0 ∨ le29 ≤ (x1_ : Int32).toNatClampNeg then none else zoL (((x0_ - (mm.1 a27 (x1_ : Int32).toNatClampNeg)) : Int32).toInt64) (fun x31 => zoS (sh o) 11 (fun le33 => Option.bind (mm.2.2 o 4) (fun a34 => zoL (x1_ + 1) (fun i35 => zoS (sh a34) 100 (fun le37 => if (i35 : Int32) < 0 ∨ le37 ≤ (i35 : Int32).toNatClampNeg then none else zoS (sh o) 11 (fun le40 => Option.bind (mm.2.2 o 4) (fun a41 => zoS (sh a41) 100 (fun le43 => if (x1_ : Int32) < 0 ∨ le43 ≤ (x1_ : Int32).toNatClampNeg then none else zoL ((((mm.1 a34 (i35 : Int32).toNatClampNeg) - (mm.1 a41 (x1_ : Int32).toNatClampNeg)) : Int32).toInt64) (fun x45 => zoS (sh o) 11 (fun le47 => (if (mm.1 o 2) = 1 then some ((((((x9 : Int32).toInt64) + (zx_div (x24 * x31) x45)) : Int64).toInt32), mm) else zoL (zx_div (x31 * 65536) x45) (fun x50 => zoL (zx_mul (zx_mul x50 x50) (196608 - (2 * x50))) (fun x53 => some ((((((x9 : Int32).toInt64) + (zx_mul x24 x53)) : Int64).toInt32), mm))))))))))))))))))))))))))))))))
set_option maxHeartbeats 4000000 in
set_option maxRecDepth 100000 in
theorem k_XTrack_valueAt (l : Launch) (D : va_G) (tA : Nat → ClassId) (b : Nat) (sh : zSh) (n : Nat) {mm : zMem} {o : Nat} {x0_ : Int32} {x1_ : Int32} {x2_ : Int32} {r : (Int32 × zMem)} (h : F_XTrack_valueAt sh mm o x0_ x1_ x2_ = some r) : zM l D tA b zy_XTrack_valueAt zb_XTrack_valueAt 15 (some .int) 2 48 0 0 [.ref (b + o), .int x0_, .int x1_, .int x2_] (zW tA b sh mm) n (zE (some (.int (r.1))) (zW tA b sh r.2) n) := by
  unfold F_XTrack_valueAt at h
  refine zM_of (own := "OrreryBox$Track") (plainFor_of_name (by decide)) rfl (Nat.le_of_ble_eq_true rfl) (fun p e s m below meth c F hr hin hH => ?_)
  refine zr_aload_n F zd_XTrack_valueAt_0 rfl ?_
  obtain ⟨le2, hs1, h⟩ := zoS_s h
  obtain ⟨a3, ea3, h⟩ := zoB_s h
  refine zr_get F 11 5 zd_XTrack_valueAt_1 (zW_o hs1 (by decide)) rfl (by decide) zw_261 rfl (by rfl) ?_
  refine zr_tor ea3 ?_
  refine zr_iconstv (v := 3) F zd_XTrack_valueAt_4 (by decide) ?_
  refine zr_iload_n F zd_XTrack_valueAt_5 rfl ?_
  refine zr_iconstv (v := 0) F zd_XTrack_valueAt_6 (by decide) ?_
  refine zr_callS1 F (c_JMath_max l D tA b _ _ x1_ 0) zd_XTrack_valueAt_7 zs_XTrack_33 zq_JMath_max rfl rfl ⟨(Nat.le_of_ble_eq_true rfl), (Nat.le_of_ble_eq_true rfl)⟩ (Nat.le_of_ble_eq_true rfl) ⟨(Nat.le_of_ble_eq_true rfl), (Nat.le_of_ble_eq_true rfl)⟩ ?_
  refine zr_imul F zd_XTrack_valueAt_10 ?_
  refine zr_pcn 11 rfl ?_
  refine zr_iload_n F zd_XTrack_valueAt_11 rfl ?_
  refine zr_iadd F zd_XTrack_valueAt_12 ?_
  obtain ⟨i5, ei5, h⟩ := zoL_s h
  rw [← ei5]
  obtain ⟨le7, hs6, h⟩ := zoS_s h
  obtain ⟨hi8, h⟩ := zoI_s h
  refine zr_iald F zd_XTrack_valueAt_13 (zW_a0 hs6) hi8 ?_
  obtain ⟨x9, ex9, h⟩ := zoL_s h
  rw [← ex9]
  refine zr_istore F zd_XTrack_valueAt_14 (by decide) ?_
  refine zr_iload_n F zd_XTrack_valueAt_16 rfl ?_
  refine zr_if_lt F 37 zd_XTrack_valueAt_17 (by decide) (fun hb10 => ?_) (fun hb10 => ?_)
  ·
    rw [if_pos hb10] at h
    refine zr_iload F zd_XTrack_valueAt_37 rfl ?_
    obtain rfl := Option.some.inj h
    exact zr_iret F hr zd_XTrack_valueAt_39 (Nat.le_of_ble_eq_true rfl) (Nat.le_of_ble_eq_true rfl) ⟨rfl, rfl, rfl⟩
  ·
    rw [if_neg hb10] at h
    refine zr_pcn 20 rfl ?_
    refine zr_iload_n F zd_XTrack_valueAt_20 rfl ?_
    refine zr_iconstv (v := 1) F zd_XTrack_valueAt_21 (by decide) ?_
    refine zr_iadd F zd_XTrack_valueAt_22 ?_
    refine zr_aload_n F zd_XTrack_valueAt_23 rfl ?_
    obtain ⟨le12, hs11, h⟩ := zoS_s h
    refine zr_get F 11 3 zd_XTrack_valueAt_24 (zW_o hs11 (by decide)) rfl (by decide) zw_257 rfl (by rfl) ?_
    refine zr_icmp_ge F 37 zd_XTrack_valueAt_27 (by decide) (fun hb13 => ?_) (fun hb13 => ?_)
    ·
      rw [if_pos hb13] at h
      refine zr_iload F zd_XTrack_valueAt_37 rfl ?_
      obtain rfl := Option.some.inj h
      exact zr_iret F hr zd_XTrack_valueAt_39 (Nat.le_of_ble_eq_true rfl) (Nat.le_of_ble_eq_true rfl) ⟨rfl, rfl, rfl⟩
    ·
      rw [if_neg hb13] at h
      refine zr_pcn 30 rfl ?_
      refine zr_aload_n F zd_XTrack_valueAt_30 rfl ?_
      obtain ⟨le15, hs14, h⟩ := zoS_s h
      refine zr_get F 11 2 zd_XTrack_valueAt_31 (zW_o hs14 (by decide)) rfl (by decide) zw_255 rfl (by rfl) ?_
      refine zr_if_ne F 40 zd_XTrack_valueAt_34 (by decide) (fun hb16 => ?_) (fun hb16 => ?_)
      ·
        rw [if_neg hb16] at h
        refine zr_aload_n F zd_XTrack_valueAt_40 rfl ?_
        obtain ⟨le18, hs17, h⟩ := zoS_s h
        obtain ⟨a19, ea19, h⟩ := zoB_s h
        refine zr_get F 11 5 zd_XTrack_valueAt_41 (zW_o hs17 (by decide)) rfl (by decide) zw_261 rfl (by rfl) ?_
        refine zr_tor ea19 ?_
        refine zr_iconstv (v := 3) F zd_XTrack_valueAt_44 (by decide) ?_
        refine zr_iload_n F zd_XTrack_valueAt_45 rfl ?_
        refine zr_iconstv (v := 1) F zd_XTrack_valueAt_46 (by decide) ?_
        refine zr_pcn 47 rfl ?_
        refine zr_iadd F zd_XTrack_valueAt_47 ?_
        refine zr_imul F zd_XTrack_valueAt_48 ?_
        refine zr_iload_n F zd_XTrack_valueAt_49 rfl ?_
        refine zr_iadd F zd_XTrack_valueAt_50 ?_
        obtain ⟨i20, ei20, h⟩ := zoL_s h
        rw [← ei20]
        obtain ⟨le22, hs21, h⟩ := zoS_s h
        obtain ⟨hi23, h⟩ := zoI_s h
        refine zr_iald F zd_XTrack_valueAt_51 (zW_a0 hs21) hi23 ?_
        refine zr_iload F zd_XTrack_valueAt_52 rfl ?_
        refine zr_isub F zd_XTrack_valueAt_54 ?_
        refine zr_i2l F zd_XTrack_valueAt_55 ?_
        refine zr_pcn 56 rfl ?_
        obtain ⟨x24, ex24, h⟩ := zoL_s h
        rw [← ex24]
        refine zr_lstore F zd_XTrack_valueAt_56 (by decide) ?_
        refine zr_iload_n F zd_XTrack_valueAt_58 rfl ?_
        refine zr_aload_n F zd_XTrack_valueAt_59 rfl ?_
        obtain ⟨le26, hs25, h⟩ := zoS_s h
        obtain ⟨a27, ea27, h⟩ := zoB_s h
        refine zr_get F 11 4 zd_XTrack_valueAt_60 (zW_o hs25 (by decide)) rfl (by decide) zw_259 rfl (by rfl) ?_
        refine zr_tor ea27 ?_
        refine zr_iload_n F zd_XTrack_valueAt_63 rfl ?_
        obtain ⟨le29, hs28, h⟩ := zoS_s h
        obtain ⟨hi30, h⟩ := zoI_s h
        refine zr_iald F zd_XTrack_valueAt_64 (zW_a0 hs28) hi30 ?_
        refine zr_isub F zd_XTrack_valueAt_65 ?_
        refine zr_i2l F zd_XTrack_valueAt_66 ?_
        refine zr_pcn 67 rfl ?_
        obtain ⟨x31, ex31, h⟩ := zoL_s h
        rw [← ex31]
        refine zr_lstore F zd_XTrack_valueAt_67 (by decide) ?_
        refine zr_aload_n F zd_XTrack_valueAt_69 rfl ?_
        obtain ⟨le33, hs32, h⟩ := zoS_s h
        obtain ⟨a34, ea34, h⟩ := zoB_s h
        refine zr_get F 11 4 zd_XTrack_valueAt_70 (zW_o hs32 (by decide)) rfl (by decide) zw_259 rfl (by rfl) ?_
        refine zr_tor ea34 ?_
        refine zr_iload_n F zd_XTrack_valueAt_73 rfl ?_
        refine zr_iconstv (v := 1) F zd_XTrack_valueAt_74 (by decide) ?_
        refine zr_iadd F zd_XTrack_valueAt_75 ?_
        obtain ⟨i35, ei35, h⟩ := zoL_s h
        rw [← ei35]
        obtain ⟨le37, hs36, h⟩ := zoS_s h
        obtain ⟨hi38, h⟩ := zoI_s h
        refine zr_iald F zd_XTrack_valueAt_76 (zW_a0 hs36) hi38 ?_
        refine zr_aload_n F zd_XTrack_valueAt_77 rfl ?_
        refine zr_pcn 78 rfl ?_
        obtain ⟨le40, hs39, h⟩ := zoS_s h
        obtain ⟨a41, ea41, h⟩ := zoB_s h
        refine zr_get F 11 4 zd_XTrack_valueAt_78 (zW_o hs39 (by decide)) rfl (by decide) zw_259 rfl (by rfl) ?_
        refine zr_tor ea41 ?_
        refine zr_iload_n F zd_XTrack_valueAt_81 rfl ?_
        obtain ⟨le43, hs42, h⟩ := zoS_s h
        obtain ⟨hi44, h⟩ := zoI_s h
        refine zr_iald F zd_XTrack_valueAt_82 (zW_a0 hs42) hi44 ?_
        refine zr_isub F zd_XTrack_valueAt_83 ?_
        refine zr_i2l F zd_XTrack_valueAt_84 ?_
        obtain ⟨x45, ex45, h⟩ := zoL_s h
        rw [← ex45]
        refine zr_lstore F zd_XTrack_valueAt_85 (by decide) ?_
        refine zr_aload_n F zd_XTrack_valueAt_87 rfl ?_
        obtain ⟨le47, hs46, h⟩ := zoS_s h
        refine zr_get F 11 2 zd_XTrack_valueAt_88 (zW_o hs46 (by decide)) rfl (by decide) zw_255 rfl (by rfl) ?_
        refine zr_pcn 91 rfl ?_
        refine zr_iconstv (v := 1) F zd_XTrack_valueAt_91 (by decide) ?_
        refine zr_icmp_ne F 111 zd_XTrack_valueAt_92 (by decide) (fun hb48 => ?_) (fun hb48 => ?_)
        ·
          rw [if_neg hb48] at h
          refine zr_lload F zd_XTrack_valueAt_111 rfl ?_
          refine zr_ldc2 F zd_XTrack_valueAt_113 zw_576 ?_
          refine zr_lmul F zd_XTrack_valueAt_116 ?_
          refine zr_lload F zd_XTrack_valueAt_117 rfl ?_
          refine zr_callS1 F (c_XFixed_div l D tA b _ _ (x31 * 65536) x45) zd_XTrack_valueAt_119 zs_XTrack_42 zq_XFixed_div rfl rfl ⟨(Nat.le_of_ble_eq_true rfl), (Nat.le_of_ble_eq_true rfl)⟩ (Nat.le_of_ble_eq_true rfl) ⟨(Nat.le_of_ble_eq_true rfl), (Nat.le_of_ble_eq_true rfl)⟩ ?_
          obtain ⟨x50, ex50, h⟩ := zoL_s h
          rw [← ex50]
          refine zr_lstore F zd_XTrack_valueAt_122 (by decide) ?_
          refine zr_pcn 124 rfl ?_
          refine zr_lload F zd_XTrack_valueAt_124 rfl ?_
          refine zr_lload F zd_XTrack_valueAt_126 rfl ?_
          refine zr_callS1 F (c_XFixed_mul l D tA b _ _ x50 x50) zd_XTrack_valueAt_128 zs_XTrack_50 zq_XFixed_mul rfl rfl ⟨(Nat.le_of_ble_eq_true rfl), (Nat.le_of_ble_eq_true rfl)⟩ (Nat.le_of_ble_eq_true rfl) ⟨(Nat.le_of_ble_eq_true rfl), (Nat.le_of_ble_eq_true rfl)⟩ ?_
          refine zr_ldc2 F zd_XTrack_valueAt_131 zw_580 ?_
          refine zr_ldc2 F zd_XTrack_valueAt_134 zw_581 ?_
          refine zr_lload F zd_XTrack_valueAt_137 rfl ?_
          refine zr_lmul F zd_XTrack_valueAt_139 ?_
          refine zr_lsub F zd_XTrack_valueAt_140 ?_
          refine zr_pcn 141 rfl ?_
          refine zr_callS1 F (c_XFixed_mul l D tA b _ _ (zx_mul x50 x50) (196608 - (2 * x50))) zd_XTrack_valueAt_141 zs_XTrack_50 zq_XFixed_mul rfl rfl ⟨(Nat.le_of_ble_eq_true rfl), (Nat.le_of_ble_eq_true rfl)⟩ (Nat.le_of_ble_eq_true rfl) ⟨(Nat.le_of_ble_eq_true rfl), (Nat.le_of_ble_eq_true rfl)⟩ ?_
          obtain ⟨x53, ex53, h⟩ := zoL_s h
          rw [← ex53]
          refine zr_lstore F zd_XTrack_valueAt_144 (by decide) ?_
          refine zr_iload F zd_XTrack_valueAt_146 rfl ?_
          refine zr_i2l F zd_XTrack_valueAt_148 ?_
          refine zr_lload F zd_XTrack_valueAt_149 rfl ?_
          refine zr_lload F zd_XTrack_valueAt_151 rfl ?_
          refine zr_callS1 F (c_XFixed_mul l D tA b _ _ x24 x53) zd_XTrack_valueAt_153 zs_XTrack_50 zq_XFixed_mul rfl rfl ⟨(Nat.le_of_ble_eq_true rfl), (Nat.le_of_ble_eq_true rfl)⟩ (Nat.le_of_ble_eq_true rfl) ⟨(Nat.le_of_ble_eq_true rfl), (Nat.le_of_ble_eq_true rfl)⟩ ?_
          refine zr_ladd F zd_XTrack_valueAt_156 ?_
          refine zr_pcn 157 rfl ?_
          refine zr_l2i F zd_XTrack_valueAt_157 ?_
          obtain rfl := Option.some.inj h
          exact zr_iret F hr zd_XTrack_valueAt_158 (Nat.le_of_ble_eq_true rfl) (Nat.le_of_ble_eq_true rfl) ⟨rfl, rfl, rfl⟩
        ·
          rw [if_pos hb48] at h
          refine zr_iload F zd_XTrack_valueAt_95 rfl ?_
          refine zr_i2l F zd_XTrack_valueAt_97 ?_
          refine zr_lload F zd_XTrack_valueAt_98 rfl ?_
          refine zr_lload F zd_XTrack_valueAt_100 rfl ?_
          refine zr_lmul F zd_XTrack_valueAt_102 ?_
          refine zr_lload F zd_XTrack_valueAt_103 rfl ?_
          refine zr_pcn 105 rfl ?_
          refine zr_callS1 F (c_XFixed_div l D tA b _ _ (x24 * x31) x45) zd_XTrack_valueAt_105 zs_XTrack_42 zq_XFixed_div rfl rfl ⟨(Nat.le_of_ble_eq_true rfl), (Nat.le_of_ble_eq_true rfl)⟩ (Nat.le_of_ble_eq_true rfl) ⟨(Nat.le_of_ble_eq_true rfl), (Nat.le_of_ble_eq_true rfl)⟩ ?_
          refine zr_ladd F zd_XTrack_valueAt_108 ?_
          refine zr_l2i F zd_XTrack_valueAt_109 ?_
          obtain rfl := Option.some.inj h
          exact zr_iret F hr zd_XTrack_valueAt_110 (Nat.le_of_ble_eq_true rfl) (Nat.le_of_ble_eq_true rfl) ⟨rfl, rfl, rfl⟩
      ·
        rw [if_pos hb16] at h
        refine zr_iload F zd_XTrack_valueAt_37 rfl ?_
        obtain rfl := Option.some.inj h
        exact zr_iret F hr zd_XTrack_valueAt_39 (Nat.le_of_ble_eq_true rfl) (Nat.le_of_ble_eq_true rfl) ⟨rfl, rfl, rfl⟩
abbrev zb_MPacker_put : ByteArray := prog_15_method_2_code
def zy_MPacker_put : MethodName := ⟨"OrreryBoxModel$Packer", "put", "(I)V"⟩
theorem zc_MPacker_put : Cond.code zy_MPacker_put zb_MPacker_put 2 none ∈ gw := gw_t 2198 (by decide +kernel) rfl
theorem zq_MPacker_put : zy_MPacker_put.cls ≠ "java/lang/invoke/MethodHandle" ∧ zy_MPacker_put.cls ≠ "java/lang/invoke/VarHandle" ∧ (parseMethodDescriptor zy_MPacker_put.desc).map (fun d => d.parameters.length) = some 1 := by decide +kernel
theorem zd_MPacker_put_0 : decode zb_MPacker_put 0 = .ok (.aload_n 0, 1) := by decide +kernel
theorem zd_MPacker_put_1 : decode zb_MPacker_put 1 = .ok (.getfield 13, 3) := by decide +kernel
theorem zd_MPacker_put_4 : decode zb_MPacker_put 4 = .ok (.aload_n 0, 1) := by decide +kernel
theorem zd_MPacker_put_5 : decode zb_MPacker_put 5 = .ok (.getfield 17, 3) := by decide +kernel
theorem zd_MPacker_put_8 : decode zb_MPacker_put 8 = .ok (.iload_n 1, 1) := by decide +kernel
theorem zd_MPacker_put_9 : decode zb_MPacker_put 9 = .ok (.i2b, 1) := by decide +kernel
theorem zd_MPacker_put_10 : decode zb_MPacker_put 10 = .ok (.bastore, 1) := by decide +kernel
theorem zd_MPacker_put_11 : decode zb_MPacker_put 11 = .ok (.aload_n 0, 1) := by decide +kernel
theorem zd_MPacker_put_12 : decode zb_MPacker_put 12 = .ok (.dup, 1) := by decide +kernel
theorem zd_MPacker_put_13 : decode zb_MPacker_put 13 = .ok (.getfield 17, 3) := by decide +kernel
theorem zd_MPacker_put_16 : decode zb_MPacker_put 16 = .ok (.iconst 1, 1) := by decide +kernel
theorem zd_MPacker_put_17 : decode zb_MPacker_put 17 = .ok (.iadd, 1) := by decide +kernel
theorem zd_MPacker_put_18 : decode zb_MPacker_put 18 = .ok (.putfield 17, 3) := by decide +kernel
theorem zd_MPacker_put_21 : decode zb_MPacker_put 21 = .ok (.return_, 1) := by decide +kernel
theorem zw_1550 : (Jvm.Cond.fieldLink "OrreryBoxModel$Packer" (17 : Nat) "OrreryBoxModel$Packer" "fileLong" "I") ∈ gw := gw_t 1550 (by decide +kernel) rfl
theorem zf_I_12_3 (b : Nat) (m : zMem) (k : Nat) (v : Int32) : (zfl b 12 m k).set 3 (.int v) = zfl b 12 (mI m k 3 v) k := by simp [zfl, mI, upd, vp_updL]
def F_MPacker_put (sh : zSh) (mm : zMem) (o : Nat) (x0_ : Int32) : Option zMem := zoS (sh o) 12 (fun le2 => Option.bind (mm.2.2 o 2) (fun a3 => zoS (sh o) 12 (fun le5 => zoL ((x0_ : Int32).toInt8.toInt32) (fun x6 => zoL (mm.1 o 3) (fun i7 => zoS (sh a3) 101 (fun le9 => if (i7 : Int32) < 0 ∨ le9 ≤ (i7 : Int32).toNatClampNeg then none else zoL (mI mm a3 (i7 : Int32).toNatClampNeg (vp_nar .byte x6)) (fun mm11 => zoS (sh o) 12 (fun le13 => zoL ((mm11.1 o 3) + 1) (fun x14 => zoS (sh o) 12 (fun le16 => zoL (mI mm11 o 3 x14) (fun mm17 => some mm17)))))))))))
set_option maxHeartbeats 4000000 in
set_option maxRecDepth 100000 in
theorem k_MPacker_put (l : Launch) (D : va_G) (tA : Nat → ClassId) (b : Nat) (sh : zSh) (n : Nat) {mm : zMem} {o : Nat} {x0_ : Int32} {r : zMem} (h : F_MPacker_put sh mm o x0_ = some r) : zM l D tA b zy_MPacker_put zb_MPacker_put 2 none 0 0 0 0 [.ref (b + o), .int x0_] (zW tA b sh mm) n (zE none (zW tA b sh r) n) := by
  unfold F_MPacker_put at h
  refine zM_of (own := "OrreryBoxModel$Packer") (plainFor_of_name (by decide)) rfl (Nat.le_of_ble_eq_true rfl) (fun p e s m below meth c F hr hin hH => ?_)
  refine zr_aload_n F zd_MPacker_put_0 rfl ?_
  obtain ⟨le2, hs1, h⟩ := zoS_s h
  obtain ⟨a3, ea3, h⟩ := zoB_s h
  refine zr_get F 12 2 zd_MPacker_put_1 (zW_o hs1 (by decide)) rfl (by decide) zw_1548 rfl (by rfl) ?_
  refine zr_tor ea3 ?_
  refine zr_aload_n F zd_MPacker_put_4 rfl ?_
  obtain ⟨le5, hs4, h⟩ := zoS_s h
  refine zr_get F 12 3 zd_MPacker_put_5 (zW_o hs4 (by decide)) rfl (by decide) zw_1550 rfl (by rfl) ?_
  refine zr_iload_n F zd_MPacker_put_8 rfl ?_
  refine zr_i2b F zd_MPacker_put_9 ?_
  obtain ⟨x6, ex6, h⟩ := zoL_s h
  rw [← ex6]
  obtain ⟨i7, ei7, h⟩ := zoL_s h
  rw [← ei7]
  obtain ⟨le9, hs8, h⟩ := zoS_s h
  obtain ⟨hi10, h⟩ := zoI_s h
  refine zr_bast F zd_MPacker_put_10 (zW_a1 hs8) hi10 ?_
  obtain ⟨mm11, emm11, h⟩ := zoL_s h
  refine zr_norm (zW tA b sh mm11) _ (by rw [emm11]; exact zW_s1 hs8) rfl ?_
  refine zr_pcn 11 rfl ?_
  refine zr_aload_n F zd_MPacker_put_11 rfl ?_
  refine zr_dup F zd_MPacker_put_12 rfl ?_
  obtain ⟨le13, hs12, h⟩ := zoS_s h
  refine zr_get F 12 3 zd_MPacker_put_13 (zW_o hs12 (by decide)) rfl (by decide) zw_1550 rfl (by rfl) ?_
  refine zr_iconstv (v := 1) F zd_MPacker_put_16 (by decide) ?_
  refine zr_iadd F zd_MPacker_put_17 ?_
  obtain ⟨x14, ex14, h⟩ := zoL_s h
  rw [← ex14]
  obtain ⟨le16, hs15, h⟩ := zoS_s h
  refine zr_put F 12 3 zd_MPacker_put_18 (zW_o hs15 (by decide)) rfl (by decide) zw_1550 rfl rfl rfl rfl (by exact (Nat.le_of_ble_eq_true rfl)) ?_
  obtain ⟨mm17, emm17, h⟩ := zoL_s h
  refine zr_norm (zW tA b sh mm17) _ (by rw [emm17]; exact zW_pI (v := x14) hs15 (by decide) (zf_I_12_3 b _ _ _)) rfl ?_
  obtain rfl := Option.some.inj h
  exact zr_vret F hr zd_MPacker_put_21 (Nat.le_of_ble_eq_true rfl) (Nat.le_of_ble_eq_true rfl) ⟨rfl, rfl, rfl⟩
abbrev zb_MPacker_put4 : ByteArray := prog_15_method_3_code
def zy_MPacker_put4 : MethodName := ⟨"OrreryBoxModel$Packer", "put4", "(I)V"⟩
theorem zc_MPacker_put4 : Cond.code zy_MPacker_put4 zb_MPacker_put4 3 none ∈ gw := gw_t 2194 (by decide +kernel) rfl
theorem zq_MPacker_put4 : zy_MPacker_put4.cls ≠ "java/lang/invoke/MethodHandle" ∧ zy_MPacker_put4.cls ≠ "java/lang/invoke/VarHandle" ∧ (parseMethodDescriptor zy_MPacker_put4.desc).map (fun d => d.parameters.length) = some 1 := by decide +kernel
theorem zd_MPacker_put4_0 : decode zb_MPacker_put4 0 = .ok (.bipush 24, 2) := by decide +kernel
theorem zd_MPacker_put4_2 : decode zb_MPacker_put4 2 = .ok (.istore_n 2, 1) := by decide +kernel
theorem zd_MPacker_put4_3 : decode zb_MPacker_put4 3 = .ok (.iload_n 2, 1) := by decide +kernel
theorem zd_MPacker_put4_4 : decode zb_MPacker_put4 4 = .ok (.ifCond .lt 16, 3) := by decide +kernel
theorem zd_MPacker_put4_7 : decode zb_MPacker_put4 7 = .ok (.aload_n 0, 1) := by decide +kernel
theorem zd_MPacker_put4_8 : decode zb_MPacker_put4 8 = .ok (.iload_n 1, 1) := by decide +kernel
theorem zd_MPacker_put4_9 : decode zb_MPacker_put4 9 = .ok (.iload_n 2, 1) := by decide +kernel
theorem zd_MPacker_put4_10 : decode zb_MPacker_put4 10 = .ok (.iushr, 1) := by decide +kernel
theorem zd_MPacker_put4_11 : decode zb_MPacker_put4 11 = .ok (.invokevirtual 21, 3) := by decide +kernel
theorem zd_MPacker_put4_14 : decode zb_MPacker_put4 14 = .ok (.iinc 2 (-8), 3) := by decide +kernel
theorem zd_MPacker_put4_17 : decode zb_MPacker_put4 17 = .ok (.goto (-14), 3) := by decide +kernel
theorem zd_MPacker_put4_20 : decode zb_MPacker_put4 20 = .ok (.return_, 1) := by decide +kernel
theorem zw_2195 : (Jvm.Cond.methodLink "OrreryBoxModel$Packer" (21 : Nat) ({ cls := "OrreryBoxModel$Packer", name := "put", desc := "(I)V" } : Jvm.MethodName)) ∈ gw := gw_t 2195 (by decide +kernel) rfl
theorem zw_2197 : (Jvm.Cond.instanceMethod ({ cls := "OrreryBoxModel$Packer", name := "put", desc := "(I)V" } : Jvm.MethodName)) ∈ gw := gw_t 2197 (by decide +kernel) rfl
theorem zv_119 : (Jvm.Cond.selects "OrreryBoxModel$Packer" (⟨"OrreryBoxModel$Packer", "put", "(I)V"⟩ : MethodName) ⟨"OrreryBoxModel$Packer", "put", "(I)V"⟩) ∈ gw := gw_s 119 (by decide +kernel) rfl
theorem zs_MPacker_21 : zwV "OrreryBoxModel$Packer" 21 "OrreryBoxModel$Packer" zy_MPacker_put zb_MPacker_put 2 none := ⟨zw_2195, zw_2197, zv_119, zw_16, zc_MPacker_put⟩
def L_MPacker_put4_3 (sh : zSh) (fuel : Nat) (v0 : Nat) (v1 : Int32) (v2 : Int32) (mm : zMem) : Option (Nat × Int32 × Int32 × zMem) := match fuel with
  | 0 => none
  | fu + 1 => (if v2 < 0 then some (v0, v1, v2, mm) else zoS (sh v0) 12 (fun le3 => zoL (((v1 : Int32).toUInt32 >>> ((v2 : Int32).toUInt32 &&& Int32.toUInt32 31)).toInt32) (fun x4 => Option.bind (F_MPacker_put sh mm v0 x4) (fun p5 => L_MPacker_put4_3 sh fu v0 v1 (v2 + (-8)) p5))))
set_option maxHeartbeats 4000000 in
set_option maxRecDepth 100000 in
theorem lp_MPacker_put4_3 {p : Program} {l : Launch} {e : Env} {s : State} {m : MethodId} {args : Array Value} {below : List Frame} {meth : Method} {c : Code} {D : va_G} {tA : Nat → ClassId} {b n : Nat} {post : Option Value → zV → Nat → Prop} {sh : zSh} (F : zF p s m args meth c zb_MPacker_put4 3 "OrreryBoxModel$Packer" D tA b) : ∀ (fuel : Nat) (v0 : Nat) (v1 : Int32) (v2 : Int32) (mm : zMem) (r : Nat × Int32 × Int32 × zMem), L_MPacker_put4_3 sh fuel v0 v1 v2 mm = some r → (Z p l e { frames := 1, cells := 0, slots := 0, locals := 21 } s m args below meth c D b 3 (MQ below (zQ D b post) args s 0 0 (fun q => b ≤ q)) (zW tA b sh r.2.2.2) n 0 0 20 [(0, .ref (b + (r.1))), (1, .int (r.2.1)), (2, .int (r.2.2.1))] []) → Z p l e { frames := 1, cells := 0, slots := 0, locals := 21 } s m args below meth c D b 3 (MQ below (zQ D b post) args s 0 0 (fun q => b ≤ q)) (zW tA b sh mm) n 0 0 3 [(0, .ref (b + v0)), (1, .int v1), (2, .int v2)] [] := by
  intro fuel
  induction fuel with
  | zero =>
    intro v0 v1 v2 mm r h
    cases h
  | succ fu ih =>
    intro v0 v1 v2 mm r h hx0
    rw [L_MPacker_put4_3] at h
    refine zr_iload_n F zd_MPacker_put4_3 rfl ?_
    refine zr_if_lt F 20 zd_MPacker_put4_4 (by decide) (fun hb1 => ?_) (fun hb1 => ?_)
    ·
      rw [if_pos hb1] at h
      obtain rfl := Option.some.inj h
      refine zr_loc (L' := [(0, .ref (b + v0)), (1, .int v1), (2, .int v2)]) ⟨rfl, rfl, rfl, trivial⟩ ?_
      exact hx0 
    ·
      rw [if_neg hb1] at h
      refine zr_aload_n F zd_MPacker_put4_7 rfl ?_
      refine zr_iload_n F zd_MPacker_put4_8 rfl ?_
      refine zr_iload_n F zd_MPacker_put4_9 rfl ?_
      refine zr_pcn 10 rfl ?_
      refine zr_iushr F zd_MPacker_put4_10 ?_
      obtain ⟨le3, hs2, h⟩ := zoS_s h
      obtain ⟨x4, ex4, h⟩ := zoL_s h
      rw [← ex4]
      obtain ⟨p5, ep5, h⟩ := zoB_s h
      refine zr_callV0 F (k_MPacker_put l D tA b sh _ ep5) zd_MPacker_put4_11 (zW_o hs2 (by decide)) rfl zs_MPacker_21 rfl zq_MPacker_put rfl rfl ⟨(Nat.le_of_ble_eq_true rfl), (Nat.le_of_ble_eq_true rfl)⟩ (Nat.le_of_ble_eq_true rfl) ⟨(Nat.le_of_ble_eq_true rfl), (Nat.le_of_ble_eq_true rfl)⟩ ?_
      refine zr_iinc (v := (v2 + (-8))) F zd_MPacker_put4_14 rfl rfl (by decide) ?_
      refine zr_goto F 3 zd_MPacker_put4_17 (by decide) ?_
      refine zr_loc (L' := [(0, .ref (b + v0)), (1, .int v1), (2, .int (v2 + (-8)))]) ⟨rfl, rfl, rfl, trivial⟩ ?_
      exact ih _ _ _ _ _ h hx0
def F_MPacker_put4 (sh : zSh) (mm : zMem) (o : Nat) (x0_ : Int32) : Option zMem := Option.bind (L_MPacker_put4_3 sh zfuel o x0_ 24 mm) (fun q6 => some (q6.2.2.2))
set_option maxHeartbeats 4000000 in
set_option maxRecDepth 100000 in
theorem k_MPacker_put4 (l : Launch) (D : va_G) (tA : Nat → ClassId) (b : Nat) (sh : zSh) (n : Nat) {mm : zMem} {o : Nat} {x0_ : Int32} {r : zMem} (h : F_MPacker_put4 sh mm o x0_ = some r) : zM l D tA b zy_MPacker_put4 zb_MPacker_put4 3 none 1 21 0 0 [.ref (b + o), .int x0_] (zW tA b sh mm) n (zE none (zW tA b sh r) n) := by
  unfold F_MPacker_put4 at h
  refine zM_of (own := "OrreryBoxModel$Packer") (plainFor_of_name (by decide)) rfl (Nat.le_of_ble_eq_true rfl) (fun p e s m below meth c F hr hin hH => ?_)
  refine zr_bipushv (v := 24) F zd_MPacker_put4_0 (by decide) ?_
  refine zr_istore_n F zd_MPacker_put4_2 (by decide) ?_
  obtain ⟨q6, eq6, h⟩ := zoB_s h
  refine zr_loc (L' := [(0, .ref (b + o)), (1, .int x0_), (2, .int 24)]) ⟨rfl, rfl, rfl, trivial⟩ ?_
  refine lp_MPacker_put4_3 F _ _ _ _ _ _ eq6 ?_
  ·
    obtain rfl := Option.some.inj h
    exact zr_vret F hr zd_MPacker_put4_20 (Nat.le_of_ble_eq_true rfl) (Nat.le_of_ble_eq_true rfl) ⟨rfl, rfl, rfl⟩
abbrev zb_MPacker_crc : ByteArray := prog_15_method_4_code
def zy_MPacker_crc : MethodName := ⟨"OrreryBoxModel$Packer", "crc", "(II)I"⟩
theorem zc_MPacker_crc : Cond.code zy_MPacker_crc zb_MPacker_crc 6 (some .int) ∈ gw := gw_t 2211 (by decide +kernel) rfl
theorem zq_MPacker_crc : zy_MPacker_crc.cls ≠ "java/lang/invoke/MethodHandle" ∧ zy_MPacker_crc.cls ≠ "java/lang/invoke/VarHandle" ∧ (parseMethodDescriptor zy_MPacker_crc.desc).map (fun d => d.parameters.length) = some 2 := by decide +kernel
theorem zd_MPacker_crc_0 : decode zb_MPacker_crc 0 = .ok (.iconst (-1), 1) := by decide +kernel
theorem zd_MPacker_crc_1 : decode zb_MPacker_crc 1 = .ok (.istore_n 3, 1) := by decide +kernel
theorem zd_MPacker_crc_2 : decode zb_MPacker_crc 2 = .ok (.iload_n 1, 1) := by decide +kernel
theorem zd_MPacker_crc_3 : decode zb_MPacker_crc 3 = .ok (.istore 4, 2) := by decide +kernel
theorem zd_MPacker_crc_5 : decode zb_MPacker_crc 5 = .ok (.iload 4, 2) := by decide +kernel
theorem zd_MPacker_crc_7 : decode zb_MPacker_crc 7 = .ok (.iload_n 2, 1) := by decide +kernel
theorem zd_MPacker_crc_8 : decode zb_MPacker_crc 8 = .ok (.if_icmp .ge 58, 3) := by decide +kernel
theorem zd_MPacker_crc_11 : decode zb_MPacker_crc 11 = .ok (.iload_n 3, 1) := by decide +kernel
theorem zd_MPacker_crc_12 : decode zb_MPacker_crc 12 = .ok (.aload_n 0, 1) := by decide +kernel
theorem zd_MPacker_crc_13 : decode zb_MPacker_crc 13 = .ok (.getfield 13, 3) := by decide +kernel
theorem zd_MPacker_crc_16 : decode zb_MPacker_crc 16 = .ok (.iload 4, 2) := by decide +kernel
theorem zd_MPacker_crc_18 : decode zb_MPacker_crc 18 = .ok (.baload, 1) := by decide +kernel
theorem zd_MPacker_crc_19 : decode zb_MPacker_crc 19 = .ok (.sipush 255, 3) := by decide +kernel
theorem zd_MPacker_crc_22 : decode zb_MPacker_crc 22 = .ok (.iand, 1) := by decide +kernel
theorem zd_MPacker_crc_23 : decode zb_MPacker_crc 23 = .ok (.ixor, 1) := by decide +kernel
theorem zd_MPacker_crc_24 : decode zb_MPacker_crc 24 = .ok (.istore_n 3, 1) := by decide +kernel
theorem zd_MPacker_crc_25 : decode zb_MPacker_crc 25 = .ok (.iconst 0, 1) := by decide +kernel
theorem zd_MPacker_crc_26 : decode zb_MPacker_crc 26 = .ok (.istore 5, 2) := by decide +kernel
theorem zd_MPacker_crc_28 : decode zb_MPacker_crc 28 = .ok (.iload 5, 2) := by decide +kernel
theorem zd_MPacker_crc_30 : decode zb_MPacker_crc 30 = .ok (.bipush 8, 2) := by decide +kernel
theorem zd_MPacker_crc_32 : decode zb_MPacker_crc 32 = .ok (.if_icmp .ge 28, 3) := by decide +kernel
theorem zd_MPacker_crc_35 : decode zb_MPacker_crc 35 = .ok (.iload_n 3, 1) := by decide +kernel
theorem zd_MPacker_crc_36 : decode zb_MPacker_crc 36 = .ok (.iconst 1, 1) := by decide +kernel
theorem zd_MPacker_crc_37 : decode zb_MPacker_crc 37 = .ok (.iand, 1) := by decide +kernel
theorem zd_MPacker_crc_38 : decode zb_MPacker_crc 38 = .ok (.ifCond .eq 12, 3) := by decide +kernel
theorem zd_MPacker_crc_41 : decode zb_MPacker_crc 41 = .ok (.iload_n 3, 1) := by decide +kernel
theorem zd_MPacker_crc_42 : decode zb_MPacker_crc 42 = .ok (.iconst 1, 1) := by decide +kernel
theorem zd_MPacker_crc_43 : decode zb_MPacker_crc 43 = .ok (.iushr, 1) := by decide +kernel
theorem zd_MPacker_crc_44 : decode zb_MPacker_crc 44 = .ok (.ldc 25, 2) := by decide +kernel
theorem zd_MPacker_crc_46 : decode zb_MPacker_crc 46 = .ok (.ixor, 1) := by decide +kernel
theorem zd_MPacker_crc_47 : decode zb_MPacker_crc 47 = .ok (.goto 6, 3) := by decide +kernel
theorem zd_MPacker_crc_50 : decode zb_MPacker_crc 50 = .ok (.iload_n 3, 1) := by decide +kernel
theorem zd_MPacker_crc_51 : decode zb_MPacker_crc 51 = .ok (.iconst 1, 1) := by decide +kernel
theorem zd_MPacker_crc_52 : decode zb_MPacker_crc 52 = .ok (.iushr, 1) := by decide +kernel
theorem zd_MPacker_crc_53 : decode zb_MPacker_crc 53 = .ok (.istore_n 3, 1) := by decide +kernel
theorem zd_MPacker_crc_54 : decode zb_MPacker_crc 54 = .ok (.iinc 5 1, 3) := by decide +kernel
theorem zd_MPacker_crc_57 : decode zb_MPacker_crc 57 = .ok (.goto (-29), 3) := by decide +kernel
theorem zd_MPacker_crc_60 : decode zb_MPacker_crc 60 = .ok (.iinc 4 1, 3) := by decide +kernel
theorem zd_MPacker_crc_63 : decode zb_MPacker_crc 63 = .ok (.goto (-58), 3) := by decide +kernel
theorem zd_MPacker_crc_66 : decode zb_MPacker_crc 66 = .ok (.iload_n 3, 1) := by decide +kernel
theorem zd_MPacker_crc_67 : decode zb_MPacker_crc 67 = .ok (.iconst (-1), 1) := by decide +kernel
theorem zd_MPacker_crc_68 : decode zb_MPacker_crc 68 = .ok (.ixor, 1) := by decide +kernel
theorem zd_MPacker_crc_69 : decode zb_MPacker_crc 69 = .ok (.ireturn, 1) := by decide +kernel
theorem zw_2212 : (Jvm.Cond.constant "OrreryBoxModel$Packer" (25 : Nat) (-306674912 : Int32)) ∈ gw := gw_t 2212 (by decide +kernel) rfl
def L_MPacker_crc_28 (sh : zSh) (fuel : Nat) (v0 : Nat) (v2 : Int32) (v3 : Int32) (v4 : Int32) (v5 : Int32) (mm : zMem) : Option (Nat × Int32 × Int32 × Int32 × Int32 × zMem) := match fuel with
  | 0 => none
  | fu + 1 => (if 8 ≤ v5 then some (v0, v2, v3, v4, v5, mm) else (if (v3 &&& 1) = 0 then zoL (((v3 : Int32).toUInt32 >>> ((1 : Int32).toUInt32 &&& Int32.toUInt32 31)).toInt32) (fun x11 => L_MPacker_crc_28 sh fu v0 v2 x11 v4 (v5 + 1) mm) else zoL ((((v3 : Int32).toUInt32 >>> ((1 : Int32).toUInt32 &&& Int32.toUInt32 31)).toInt32) ^^^ (-306674912)) (fun x12 => L_MPacker_crc_28 sh fu v0 v2 x12 v4 (v5 + 1) mm)))
set_option maxHeartbeats 4000000 in
set_option maxRecDepth 100000 in
theorem lp_MPacker_crc_28 {p : Program} {l : Launch} {e : Env} {s : State} {m : MethodId} {args : Array Value} {below : List Frame} {meth : Method} {c : Code} {D : va_G} {tA : Nat → ClassId} {b n : Nat} {post : Option Value → zV → Nat → Prop} {sh : zSh} (F : zF p s m args meth c zb_MPacker_crc 6 "OrreryBoxModel$Packer" D tA b) : ∀ (fuel : Nat) (v0 : Nat) (v2 : Int32) (v3 : Int32) (v4 : Int32) (v5 : Int32) (mm : zMem) (r : Nat × Int32 × Int32 × Int32 × Int32 × zMem), L_MPacker_crc_28 sh fuel v0 v2 v3 v4 v5 mm = some r → (Z p l e { frames := 0, cells := 0, slots := 0, locals := 0 } s m args below meth c D b 6 (MQ below (zQ D b post) args s 0 0 (fun q => b ≤ q)) (zW tA b sh r.2.2.2.2.2) n 0 0 60 [(0, .ref (b + (r.1))), (2, .int (r.2.1)), (3, .int (r.2.2.1)), (4, .int (r.2.2.2.1)), (5, .int (r.2.2.2.2.1))] []) → Z p l e { frames := 0, cells := 0, slots := 0, locals := 0 } s m args below meth c D b 6 (MQ below (zQ D b post) args s 0 0 (fun q => b ≤ q)) (zW tA b sh mm) n 0 0 28 [(0, .ref (b + v0)), (2, .int v2), (3, .int v3), (4, .int v4), (5, .int v5)] [] := by
  intro fuel
  induction fuel with
  | zero =>
    intro v0 v2 v3 v4 v5 mm r h
    cases h
  | succ fu ih =>
    intro v0 v2 v3 v4 v5 mm r h hx0
    rw [L_MPacker_crc_28] at h
    refine zr_iload F zd_MPacker_crc_28 rfl ?_
    refine zr_bipushv (v := 8) F zd_MPacker_crc_30 (by decide) ?_
    refine zr_icmp_ge F 60 zd_MPacker_crc_32 (by decide) (fun hb9 => ?_) (fun hb9 => ?_)
    ·
      rw [if_pos hb9] at h
      obtain rfl := Option.some.inj h
      refine zr_loc (L' := [(0, .ref (b + v0)), (2, .int v2), (3, .int v3), (4, .int v4), (5, .int v5)]) ⟨rfl, rfl, rfl, rfl, rfl, trivial⟩ ?_
      exact hx0 
    ·
      rw [if_neg hb9] at h
      refine zr_iload_n F zd_MPacker_crc_35 rfl ?_
      refine zr_iconstv (v := 1) F zd_MPacker_crc_36 (by decide) ?_
      refine zr_pcn 37 rfl ?_
      refine zr_iand F zd_MPacker_crc_37 ?_
      refine zr_if_eq F 50 zd_MPacker_crc_38 (by decide) (fun hb10 => ?_) (fun hb10 => ?_)
      ·
        rw [if_pos hb10] at h
        refine zr_iload_n F zd_MPacker_crc_50 rfl ?_
        refine zr_iconstv (v := 1) F zd_MPacker_crc_51 (by decide) ?_
        refine zr_iushr F zd_MPacker_crc_52 ?_
        obtain ⟨x11, ex11, h⟩ := zoL_s h
        rw [← ex11]
        refine zr_istore_n F zd_MPacker_crc_53 (by decide) ?_
        refine zr_iinc (v := (v5 + 1)) F zd_MPacker_crc_54 rfl rfl (by decide) ?_
        refine zr_goto F 28 zd_MPacker_crc_57 (by decide) ?_
        refine zr_loc (L' := [(0, .ref (b + v0)), (2, .int v2), (3, .int x11), (4, .int v4), (5, .int (v5 + 1))]) ⟨rfl, rfl, rfl, rfl, rfl, trivial⟩ ?_
        exact ih _ _ _ _ _ _ _ h hx0
      ·
        rw [if_neg hb10] at h
        refine zr_pcn 41 rfl ?_
        refine zr_iload_n F zd_MPacker_crc_41 rfl ?_
        refine zr_iconstv (v := 1) F zd_MPacker_crc_42 (by decide) ?_
        refine zr_iushr F zd_MPacker_crc_43 ?_
        refine zr_ldc F zd_MPacker_crc_44 zw_2212 ?_
        refine zr_ixor F zd_MPacker_crc_46 ?_
        refine zr_goto F 53 zd_MPacker_crc_47 (by decide) ?_
        obtain ⟨x12, ex12, h⟩ := zoL_s h
        rw [← ex12]
        refine zr_istore_n F zd_MPacker_crc_53 (by decide) ?_
        refine zr_iinc (v := (v5 + 1)) F zd_MPacker_crc_54 rfl rfl (by decide) ?_
        refine zr_pcn 57 rfl ?_
        refine zr_goto F 28 zd_MPacker_crc_57 (by decide) ?_
        refine zr_loc (L' := [(0, .ref (b + v0)), (2, .int v2), (3, .int x12), (4, .int v4), (5, .int (v5 + 1))]) ⟨rfl, rfl, rfl, rfl, rfl, trivial⟩ ?_
        exact ih _ _ _ _ _ _ _ h hx0
def L_MPacker_crc_5 (sh : zSh) (fuel : Nat) (v0 : Nat) (v2 : Int32) (v3 : Int32) (v4 : Int32) (mm : zMem) : Option (Nat × Int32 × Int32 × Int32 × zMem) := match fuel with
  | 0 => none
  | fu + 1 => (if v2 ≤ v4 then some (v0, v2, v3, v4, mm) else zoS (sh v0) 12 (fun le3 => Option.bind (mm.2.2 v0 2) (fun a4 => zoS (sh a4) 101 (fun le6 => if (v4 : Int32) < 0 ∨ le6 ≤ (v4 : Int32).toNatClampNeg then none else zoL (v3 ^^^ ((mm.1 a4 (v4 : Int32).toNatClampNeg) &&& 255)) (fun x8 => Option.bind (L_MPacker_crc_28 sh zfuel v0 v2 x8 v4 0 mm) (fun q13 => L_MPacker_crc_5 sh fu (q13.1) (q13.2.1) (q13.2.2.1) (q13.2.2.2.1 + 1) (q13.2.2.2.2.2)))))))
set_option maxHeartbeats 4000000 in
set_option maxRecDepth 100000 in
theorem lp_MPacker_crc_5 {p : Program} {l : Launch} {e : Env} {s : State} {m : MethodId} {args : Array Value} {below : List Frame} {meth : Method} {c : Code} {D : va_G} {tA : Nat → ClassId} {b n : Nat} {post : Option Value → zV → Nat → Prop} {sh : zSh} (F : zF p s m args meth c zb_MPacker_crc 6 "OrreryBoxModel$Packer" D tA b) : ∀ (fuel : Nat) (v0 : Nat) (v2 : Int32) (v3 : Int32) (v4 : Int32) (mm : zMem) (r : Nat × Int32 × Int32 × Int32 × zMem), L_MPacker_crc_5 sh fuel v0 v2 v3 v4 mm = some r → (Z p l e { frames := 0, cells := 0, slots := 0, locals := 0 } s m args below meth c D b 6 (MQ below (zQ D b post) args s 0 0 (fun q => b ≤ q)) (zW tA b sh r.2.2.2.2) n 0 0 66 [(0, .ref (b + (r.1))), (2, .int (r.2.1)), (3, .int (r.2.2.1)), (4, .int (r.2.2.2.1))] []) → Z p l e { frames := 0, cells := 0, slots := 0, locals := 0 } s m args below meth c D b 6 (MQ below (zQ D b post) args s 0 0 (fun q => b ≤ q)) (zW tA b sh mm) n 0 0 5 [(0, .ref (b + v0)), (2, .int v2), (3, .int v3), (4, .int v4)] [] := by
  intro fuel
  induction fuel with
  | zero =>
    intro v0 v2 v3 v4 mm r h
    cases h
  | succ fu ih =>
    intro v0 v2 v3 v4 mm r h hx0
    rw [L_MPacker_crc_5] at h
    refine zr_iload F zd_MPacker_crc_5 rfl ?_
    refine zr_iload_n F zd_MPacker_crc_7 rfl ?_
    refine zr_icmp_ge F 66 zd_MPacker_crc_8 (by decide) (fun hb1 => ?_) (fun hb1 => ?_)
    ·
      rw [if_pos hb1] at h
      obtain rfl := Option.some.inj h
      refine zr_loc (L' := [(0, .ref (b + v0)), (2, .int v2), (3, .int v3), (4, .int v4)]) ⟨rfl, rfl, rfl, rfl, trivial⟩ ?_
      exact hx0 
    ·
      rw [if_neg hb1] at h
      refine zr_pcn 11 rfl ?_
      refine zr_iload_n F zd_MPacker_crc_11 rfl ?_
      refine zr_aload_n F zd_MPacker_crc_12 rfl ?_
      obtain ⟨le3, hs2, h⟩ := zoS_s h
      obtain ⟨a4, ea4, h⟩ := zoB_s h
      refine zr_get F 12 2 zd_MPacker_crc_13 (zW_o hs2 (by decide)) rfl (by decide) zw_1548 rfl (by rfl) ?_
      refine zr_tor ea4 ?_
      refine zr_iload F zd_MPacker_crc_16 rfl ?_
      obtain ⟨le6, hs5, h⟩ := zoS_s h
      obtain ⟨hi7, h⟩ := zoI_s h
      refine zr_bald F zd_MPacker_crc_18 (zW_a1 hs5) hi7 ?_
      refine zr_sipushv (v := 255) F zd_MPacker_crc_19 (by decide) ?_
      refine zr_iand F zd_MPacker_crc_22 ?_
      refine zr_ixor F zd_MPacker_crc_23 ?_
      refine zr_pcn 24 rfl ?_
      obtain ⟨x8, ex8, h⟩ := zoL_s h
      rw [← ex8]
      refine zr_istore_n F zd_MPacker_crc_24 (by decide) ?_
      refine zr_iconstv (v := 0) F zd_MPacker_crc_25 (by decide) ?_
      refine zr_istore F zd_MPacker_crc_26 (by decide) ?_
      obtain ⟨q13, eq13, h⟩ := zoB_s h
      refine zr_loc (L' := [(0, .ref (b + v0)), (2, .int v2), (3, .int x8), (4, .int v4), (5, .int 0)]) ⟨rfl, rfl, rfl, rfl, rfl, trivial⟩ ?_
      refine lp_MPacker_crc_28 F _ _ _ _ _ _ _ _ eq13 ?_
      ·
        refine zr_iinc (v := (q13.2.2.2.1 + 1)) F zd_MPacker_crc_60 rfl rfl (by decide) ?_
        refine zr_goto F 5 zd_MPacker_crc_63 (by decide) ?_
        refine zr_loc (L' := [(0, .ref (b + (q13.1))), (2, .int (q13.2.1)), (3, .int (q13.2.2.1)), (4, .int (q13.2.2.2.1 + 1))]) ⟨rfl, rfl, rfl, rfl, trivial⟩ ?_
        exact ih _ _ _ _ _ _ h hx0
def F_MPacker_crc (sh : zSh) (mm : zMem) (o : Nat) (x0_ : Int32) (x1_ : Int32) : Option (Int32 × zMem) := Option.bind (L_MPacker_crc_5 sh zfuel o x1_ (-1) x0_ mm) (fun q14 => some ((q14.2.2.1 ^^^ (-1)), q14.2.2.2.2))
set_option maxHeartbeats 4000000 in
set_option maxRecDepth 100000 in
theorem k_MPacker_crc (l : Launch) (D : va_G) (tA : Nat → ClassId) (b : Nat) (sh : zSh) (n : Nat) {mm : zMem} {o : Nat} {x0_ : Int32} {x1_ : Int32} {r : (Int32 × zMem)} (h : F_MPacker_crc sh mm o x0_ x1_ = some r) : zM l D tA b zy_MPacker_crc zb_MPacker_crc 6 (some .int) 0 0 0 0 [.ref (b + o), .int x0_, .int x1_] (zW tA b sh mm) n (zE (some (.int (r.1))) (zW tA b sh r.2) n) := by
  unfold F_MPacker_crc at h
  refine zM_of (own := "OrreryBoxModel$Packer") (plainFor_of_name (by decide)) rfl (Nat.le_of_ble_eq_true rfl) (fun p e s m below meth c F hr hin hH => ?_)
  refine zr_iconstv (v := (-1)) F zd_MPacker_crc_0 (by decide) ?_
  refine zr_istore_n F zd_MPacker_crc_1 (by decide) ?_
  refine zr_iload_n F zd_MPacker_crc_2 rfl ?_
  refine zr_istore F zd_MPacker_crc_3 (by decide) ?_
  obtain ⟨q14, eq14, h⟩ := zoB_s h
  refine zr_loc (L' := [(0, .ref (b + o)), (2, .int x1_), (3, .int (-1)), (4, .int x0_)]) ⟨rfl, rfl, rfl, rfl, trivial⟩ ?_
  refine lp_MPacker_crc_5 F _ _ _ _ _ _ _ eq14 ?_
  ·
    refine zr_iload_n F zd_MPacker_crc_66 rfl ?_
    refine zr_iconstv (v := (-1)) F zd_MPacker_crc_67 (by decide) ?_
    refine zr_ixor F zd_MPacker_crc_68 ?_
    obtain rfl := Option.some.inj h
    exact zr_iret F hr zd_MPacker_crc_69 (Nat.le_of_ble_eq_true rfl) (Nat.le_of_ble_eq_true rfl) ⟨rfl, rfl, rfl⟩
abbrev zb_MPacker_begin : ByteArray := prog_15_method_5_code
def zy_MPacker_begin : MethodName := ⟨"OrreryBoxModel$Packer", "begin", "(IIII)I"⟩
theorem zc_MPacker_begin : Cond.code zy_MPacker_begin zb_MPacker_begin 6 (some .int) ∈ gw := gw_t 2203 (by decide +kernel) rfl
theorem zq_MPacker_begin : zy_MPacker_begin.cls ≠ "java/lang/invoke/MethodHandle" ∧ zy_MPacker_begin.cls ≠ "java/lang/invoke/VarHandle" ∧ (parseMethodDescriptor zy_MPacker_begin.desc).map (fun d => d.parameters.length) = some 4 := by decide +kernel
theorem zd_MPacker_begin_0 : decode zb_MPacker_begin 0 = .ok (.aload_n 0, 1) := by decide +kernel
theorem zd_MPacker_begin_1 : decode zb_MPacker_begin 1 = .ok (.getfield 17, 3) := by decide +kernel
theorem zd_MPacker_begin_4 : decode zb_MPacker_begin 4 = .ok (.istore 5, 2) := by decide +kernel
theorem zd_MPacker_begin_6 : decode zb_MPacker_begin 6 = .ok (.aload_n 0, 1) := by decide +kernel
theorem zd_MPacker_begin_7 : decode zb_MPacker_begin 7 = .ok (.iconst 0, 1) := by decide +kernel
theorem zd_MPacker_begin_8 : decode zb_MPacker_begin 8 = .ok (.invokevirtual 26, 3) := by decide +kernel
theorem zd_MPacker_begin_11 : decode zb_MPacker_begin 11 = .ok (.aload_n 0, 1) := by decide +kernel
theorem zd_MPacker_begin_12 : decode zb_MPacker_begin 12 = .ok (.iload_n 1, 1) := by decide +kernel
theorem zd_MPacker_begin_13 : decode zb_MPacker_begin 13 = .ok (.invokevirtual 21, 3) := by decide +kernel
theorem zd_MPacker_begin_16 : decode zb_MPacker_begin 16 = .ok (.aload_n 0, 1) := by decide +kernel
theorem zd_MPacker_begin_17 : decode zb_MPacker_begin 17 = .ok (.iload_n 2, 1) := by decide +kernel
theorem zd_MPacker_begin_18 : decode zb_MPacker_begin 18 = .ok (.invokevirtual 21, 3) := by decide +kernel
theorem zd_MPacker_begin_21 : decode zb_MPacker_begin 21 = .ok (.aload_n 0, 1) := by decide +kernel
theorem zd_MPacker_begin_22 : decode zb_MPacker_begin 22 = .ok (.iload_n 3, 1) := by decide +kernel
theorem zd_MPacker_begin_23 : decode zb_MPacker_begin 23 = .ok (.invokevirtual 21, 3) := by decide +kernel
theorem zd_MPacker_begin_26 : decode zb_MPacker_begin 26 = .ok (.aload_n 0, 1) := by decide +kernel
theorem zd_MPacker_begin_27 : decode zb_MPacker_begin 27 = .ok (.iload 4, 2) := by decide +kernel
theorem zd_MPacker_begin_29 : decode zb_MPacker_begin 29 = .ok (.invokevirtual 21, 3) := by decide +kernel
theorem zd_MPacker_begin_32 : decode zb_MPacker_begin 32 = .ok (.iload 5, 2) := by decide +kernel
theorem zd_MPacker_begin_34 : decode zb_MPacker_begin 34 = .ok (.ireturn, 1) := by decide +kernel
theorem zw_2191 : (Jvm.Cond.methodLink "OrreryBoxModel$Packer" (26 : Nat) ({ cls := "OrreryBoxModel$Packer", name := "put4", desc := "(I)V" } : Jvm.MethodName)) ∈ gw := gw_t 2191 (by decide +kernel) rfl
theorem zw_2193 : (Jvm.Cond.instanceMethod ({ cls := "OrreryBoxModel$Packer", name := "put4", desc := "(I)V" } : Jvm.MethodName)) ∈ gw := gw_t 2193 (by decide +kernel) rfl
theorem zv_118 : (Jvm.Cond.selects "OrreryBoxModel$Packer" (⟨"OrreryBoxModel$Packer", "put4", "(I)V"⟩ : MethodName) ⟨"OrreryBoxModel$Packer", "put4", "(I)V"⟩) ∈ gw := gw_s 118 (by decide +kernel) rfl
theorem zs_MPacker_26 : zwV "OrreryBoxModel$Packer" 26 "OrreryBoxModel$Packer" zy_MPacker_put4 zb_MPacker_put4 3 none := ⟨zw_2191, zw_2193, zv_118, zw_16, zc_MPacker_put4⟩
def F_MPacker_begin (sh : zSh) (mm : zMem) (o : Nat) (x0_ : Int32) (x1_ : Int32) (x2_ : Int32) (x3_ : Int32) : Option (Int32 × zMem) := zoS (sh o) 12 (fun le2 => zoL (mm.1 o 3) (fun x3 => zoS (sh o) 12 (fun le5 => Option.bind (F_MPacker_put4 sh mm o 0) (fun p6 => zoS (sh o) 12 (fun le8 => Option.bind (F_MPacker_put sh p6 o x0_) (fun p9 => zoS (sh o) 12 (fun le11 => Option.bind (F_MPacker_put sh p9 o x1_) (fun p12 => zoS (sh o) 12 (fun le14 => Option.bind (F_MPacker_put sh p12 o x2_) (fun p15 => zoS (sh o) 12 (fun le17 => Option.bind (F_MPacker_put sh p15 o x3_) (fun p18 => some (x3, p18)))))))))))))
set_option maxHeartbeats 4000000 in
set_option maxRecDepth 100000 in
theorem k_MPacker_begin (l : Launch) (D : va_G) (tA : Nat → ClassId) (b : Nat) (sh : zSh) (n : Nat) {mm : zMem} {o : Nat} {x0_ : Int32} {x1_ : Int32} {x2_ : Int32} {x3_ : Int32} {r : (Int32 × zMem)} (h : F_MPacker_begin sh mm o x0_ x1_ x2_ x3_ = some r) : zM l D tA b zy_MPacker_begin zb_MPacker_begin 6 (some .int) 2 43 0 0 [.ref (b + o), .int x0_, .int x1_, .int x2_, .int x3_] (zW tA b sh mm) n (zE (some (.int (r.1))) (zW tA b sh r.2) n) := by
  unfold F_MPacker_begin at h
  refine zM_of (own := "OrreryBoxModel$Packer") (plainFor_of_name (by decide)) rfl (Nat.le_of_ble_eq_true rfl) (fun p e s m below meth c F hr hin hH => ?_)
  refine zr_aload_n F zd_MPacker_begin_0 rfl ?_
  obtain ⟨le2, hs1, h⟩ := zoS_s h
  refine zr_get F 12 3 zd_MPacker_begin_1 (zW_o hs1 (by decide)) rfl (by decide) zw_1550 rfl (by rfl) ?_
  obtain ⟨x3, ex3, h⟩ := zoL_s h
  rw [← ex3]
  refine zr_istore F zd_MPacker_begin_4 (by decide) ?_
  refine zr_aload_n F zd_MPacker_begin_6 rfl ?_
  refine zr_iconstv (v := 0) F zd_MPacker_begin_7 (by decide) ?_
  obtain ⟨le5, hs4, h⟩ := zoS_s h
  obtain ⟨p6, ep6, h⟩ := zoB_s h
  refine zr_callV0 F (k_MPacker_put4 l D tA b sh _ ep6) zd_MPacker_begin_8 (zW_o hs4 (by decide)) rfl zs_MPacker_26 rfl zq_MPacker_put4 rfl rfl ⟨(Nat.le_of_ble_eq_true rfl), (Nat.le_of_ble_eq_true rfl)⟩ (Nat.le_of_ble_eq_true rfl) ⟨(Nat.le_of_ble_eq_true rfl), (Nat.le_of_ble_eq_true rfl)⟩ ?_
  refine zr_aload_n F zd_MPacker_begin_11 rfl ?_
  refine zr_pcn 12 rfl ?_
  refine zr_iload_n F zd_MPacker_begin_12 rfl ?_
  obtain ⟨le8, hs7, h⟩ := zoS_s h
  obtain ⟨p9, ep9, h⟩ := zoB_s h
  refine zr_callV0 F (k_MPacker_put l D tA b sh _ ep9) zd_MPacker_begin_13 (zW_o hs7 (by decide)) rfl zs_MPacker_21 rfl zq_MPacker_put rfl rfl ⟨(Nat.le_of_ble_eq_true rfl), (Nat.le_of_ble_eq_true rfl)⟩ (Nat.le_of_ble_eq_true rfl) ⟨(Nat.le_of_ble_eq_true rfl), (Nat.le_of_ble_eq_true rfl)⟩ ?_
  refine zr_aload_n F zd_MPacker_begin_16 rfl ?_
  refine zr_iload_n F zd_MPacker_begin_17 rfl ?_
  obtain ⟨le11, hs10, h⟩ := zoS_s h
  obtain ⟨p12, ep12, h⟩ := zoB_s h
  refine zr_callV0 F (k_MPacker_put l D tA b sh _ ep12) zd_MPacker_begin_18 (zW_o hs10 (by decide)) rfl zs_MPacker_21 rfl zq_MPacker_put rfl rfl ⟨(Nat.le_of_ble_eq_true rfl), (Nat.le_of_ble_eq_true rfl)⟩ (Nat.le_of_ble_eq_true rfl) ⟨(Nat.le_of_ble_eq_true rfl), (Nat.le_of_ble_eq_true rfl)⟩ ?_
  refine zr_aload_n F zd_MPacker_begin_21 rfl ?_
  refine zr_iload_n F zd_MPacker_begin_22 rfl ?_
  obtain ⟨le14, hs13, h⟩ := zoS_s h
  obtain ⟨p15, ep15, h⟩ := zoB_s h
  refine zr_callV0 F (k_MPacker_put l D tA b sh _ ep15) zd_MPacker_begin_23 (zW_o hs13 (by decide)) rfl zs_MPacker_21 rfl zq_MPacker_put rfl rfl ⟨(Nat.le_of_ble_eq_true rfl), (Nat.le_of_ble_eq_true rfl)⟩ (Nat.le_of_ble_eq_true rfl) ⟨(Nat.le_of_ble_eq_true rfl), (Nat.le_of_ble_eq_true rfl)⟩ ?_
  refine zr_pcn 26 rfl ?_
  refine zr_aload_n F zd_MPacker_begin_26 rfl ?_
  refine zr_iload F zd_MPacker_begin_27 rfl ?_
  obtain ⟨le17, hs16, h⟩ := zoS_s h
  obtain ⟨p18, ep18, h⟩ := zoB_s h
  refine zr_callV0 F (k_MPacker_put l D tA b sh _ ep18) zd_MPacker_begin_29 (zW_o hs16 (by decide)) rfl zs_MPacker_21 rfl zq_MPacker_put rfl rfl ⟨(Nat.le_of_ble_eq_true rfl), (Nat.le_of_ble_eq_true rfl)⟩ (Nat.le_of_ble_eq_true rfl) ⟨(Nat.le_of_ble_eq_true rfl), (Nat.le_of_ble_eq_true rfl)⟩ ?_
  refine zr_iload F zd_MPacker_begin_32 rfl ?_
  obtain rfl := Option.some.inj h
  exact zr_iret F hr zd_MPacker_begin_34 (Nat.le_of_ble_eq_true rfl) (Nat.le_of_ble_eq_true rfl) ⟨rfl, rfl, rfl⟩
abbrev zb_MPacker_finish : ByteArray := prog_15_method_6_code
def zy_MPacker_finish : MethodName := ⟨"OrreryBoxModel$Packer", "finish", "(I)V"⟩
theorem zc_MPacker_finish : Cond.code zy_MPacker_finish zb_MPacker_finish 4 none ∈ gw := gw_t 2207 (by decide +kernel) rfl
theorem zq_MPacker_finish : zy_MPacker_finish.cls ≠ "java/lang/invoke/MethodHandle" ∧ zy_MPacker_finish.cls ≠ "java/lang/invoke/VarHandle" ∧ (parseMethodDescriptor zy_MPacker_finish.desc).map (fun d => d.parameters.length) = some 1 := by decide +kernel
theorem zd_MPacker_finish_0 : decode zb_MPacker_finish 0 = .ok (.aload_n 0, 1) := by decide +kernel
theorem zd_MPacker_finish_1 : decode zb_MPacker_finish 1 = .ok (.getfield 17, 3) := by decide +kernel
theorem zd_MPacker_finish_4 : decode zb_MPacker_finish 4 = .ok (.iload_n 1, 1) := by decide +kernel
theorem zd_MPacker_finish_5 : decode zb_MPacker_finish 5 = .ok (.isub, 1) := by decide +kernel
theorem zd_MPacker_finish_6 : decode zb_MPacker_finish 6 = .ok (.bipush 8, 2) := by decide +kernel
theorem zd_MPacker_finish_8 : decode zb_MPacker_finish 8 = .ok (.isub, 1) := by decide +kernel
theorem zd_MPacker_finish_9 : decode zb_MPacker_finish 9 = .ok (.istore_n 2, 1) := by decide +kernel
theorem zd_MPacker_finish_10 : decode zb_MPacker_finish 10 = .ok (.iconst 0, 1) := by decide +kernel
theorem zd_MPacker_finish_11 : decode zb_MPacker_finish 11 = .ok (.istore_n 3, 1) := by decide +kernel
theorem zd_MPacker_finish_12 : decode zb_MPacker_finish 12 = .ok (.iload_n 3, 1) := by decide +kernel
theorem zd_MPacker_finish_13 : decode zb_MPacker_finish 13 = .ok (.iconst 4, 1) := by decide +kernel
theorem zd_MPacker_finish_14 : decode zb_MPacker_finish 14 = .ok (.if_icmp .ge 27, 3) := by decide +kernel
theorem zd_MPacker_finish_17 : decode zb_MPacker_finish 17 = .ok (.aload_n 0, 1) := by decide +kernel
theorem zd_MPacker_finish_18 : decode zb_MPacker_finish 18 = .ok (.getfield 13, 3) := by decide +kernel
theorem zd_MPacker_finish_21 : decode zb_MPacker_finish 21 = .ok (.iload_n 1, 1) := by decide +kernel
theorem zd_MPacker_finish_22 : decode zb_MPacker_finish 22 = .ok (.iload_n 3, 1) := by decide +kernel
theorem zd_MPacker_finish_23 : decode zb_MPacker_finish 23 = .ok (.iadd, 1) := by decide +kernel
theorem zd_MPacker_finish_24 : decode zb_MPacker_finish 24 = .ok (.iload_n 2, 1) := by decide +kernel
theorem zd_MPacker_finish_25 : decode zb_MPacker_finish 25 = .ok (.bipush 24, 2) := by decide +kernel
theorem zd_MPacker_finish_27 : decode zb_MPacker_finish 27 = .ok (.bipush 8, 2) := by decide +kernel
theorem zd_MPacker_finish_29 : decode zb_MPacker_finish 29 = .ok (.iload_n 3, 1) := by decide +kernel
theorem zd_MPacker_finish_30 : decode zb_MPacker_finish 30 = .ok (.imul, 1) := by decide +kernel
theorem zd_MPacker_finish_31 : decode zb_MPacker_finish 31 = .ok (.isub, 1) := by decide +kernel
theorem zd_MPacker_finish_32 : decode zb_MPacker_finish 32 = .ok (.iushr, 1) := by decide +kernel
theorem zd_MPacker_finish_33 : decode zb_MPacker_finish 33 = .ok (.i2b, 1) := by decide +kernel
theorem zd_MPacker_finish_34 : decode zb_MPacker_finish 34 = .ok (.bastore, 1) := by decide +kernel
theorem zd_MPacker_finish_35 : decode zb_MPacker_finish 35 = .ok (.iinc 3 1, 3) := by decide +kernel
theorem zd_MPacker_finish_38 : decode zb_MPacker_finish 38 = .ok (.goto (-26), 3) := by decide +kernel
theorem zd_MPacker_finish_41 : decode zb_MPacker_finish 41 = .ok (.aload_n 0, 1) := by decide +kernel
theorem zd_MPacker_finish_42 : decode zb_MPacker_finish 42 = .ok (.aload_n 0, 1) := by decide +kernel
theorem zd_MPacker_finish_43 : decode zb_MPacker_finish 43 = .ok (.iload_n 1, 1) := by decide +kernel
theorem zd_MPacker_finish_44 : decode zb_MPacker_finish 44 = .ok (.iconst 4, 1) := by decide +kernel
theorem zd_MPacker_finish_45 : decode zb_MPacker_finish 45 = .ok (.iadd, 1) := by decide +kernel
theorem zd_MPacker_finish_46 : decode zb_MPacker_finish 46 = .ok (.aload_n 0, 1) := by decide +kernel
theorem zd_MPacker_finish_47 : decode zb_MPacker_finish 47 = .ok (.getfield 17, 3) := by decide +kernel
theorem zd_MPacker_finish_50 : decode zb_MPacker_finish 50 = .ok (.invokevirtual 29, 3) := by decide +kernel
theorem zd_MPacker_finish_53 : decode zb_MPacker_finish 53 = .ok (.invokevirtual 26, 3) := by decide +kernel
theorem zd_MPacker_finish_56 : decode zb_MPacker_finish 56 = .ok (.return_, 1) := by decide +kernel
def L_MPacker_finish_12 (sh : zSh) (fuel : Nat) (v0 : Nat) (v1 : Int32) (v2 : Int32) (v3 : Int32) (mm : zMem) : Option (Nat × Int32 × Int32 × Int32 × zMem) := match fuel with
  | 0 => none
  | fu + 1 => (if 4 ≤ v3 then some (v0, v1, v2, v3, mm) else zoS (sh v0) 12 (fun le6 => Option.bind (mm.2.2 v0 2) (fun a7 => zoL (((((v2 : Int32).toUInt32 >>> (((24 - (8 * v3)) : Int32).toUInt32 &&& Int32.toUInt32 31)).toInt32) : Int32).toInt8.toInt32) (fun x8 => zoL (v1 + v3) (fun i9 => zoS (sh a7) 101 (fun le11 => if (i9 : Int32) < 0 ∨ le11 ≤ (i9 : Int32).toNatClampNeg then none else zoL (mI mm a7 (i9 : Int32).toNatClampNeg (vp_nar .byte x8)) (fun mm13 => L_MPacker_finish_12 sh fu v0 v1 v2 (v3 + 1) mm13)))))))
set_option maxHeartbeats 4000000 in
set_option maxRecDepth 100000 in
theorem lp_MPacker_finish_12 {p : Program} {l : Launch} {e : Env} {s : State} {m : MethodId} {args : Array Value} {below : List Frame} {meth : Method} {c : Code} {D : va_G} {tA : Nat → ClassId} {b n : Nat} {post : Option Value → zV → Nat → Prop} {sh : zSh} (F : zF p s m args meth c zb_MPacker_finish 4 "OrreryBoxModel$Packer" D tA b) : ∀ (fuel : Nat) (v0 : Nat) (v1 : Int32) (v2 : Int32) (v3 : Int32) (mm : zMem) (r : Nat × Int32 × Int32 × Int32 × zMem), L_MPacker_finish_12 sh fuel v0 v1 v2 v3 mm = some r → (Z p l e { frames := 2, cells := 0, slots := 0, locals := 43 } s m args below meth c D b 4 (MQ below (zQ D b post) args s 0 0 (fun q => b ≤ q)) (zW tA b sh r.2.2.2.2) n 0 0 41 [(0, .ref (b + (r.1))), (1, .int (r.2.1)), (2, .int (r.2.2.1)), (3, .int (r.2.2.2.1))] []) → Z p l e { frames := 2, cells := 0, slots := 0, locals := 43 } s m args below meth c D b 4 (MQ below (zQ D b post) args s 0 0 (fun q => b ≤ q)) (zW tA b sh mm) n 0 0 12 [(0, .ref (b + v0)), (1, .int v1), (2, .int v2), (3, .int v3)] [] := by
  intro fuel
  induction fuel with
  | zero =>
    intro v0 v1 v2 v3 mm r h
    cases h
  | succ fu ih =>
    intro v0 v1 v2 v3 mm r h hx0
    rw [L_MPacker_finish_12] at h
    refine zr_iload_n F zd_MPacker_finish_12 rfl ?_
    refine zr_iconstv (v := 4) F zd_MPacker_finish_13 (by decide) ?_
    refine zr_icmp_ge F 41 zd_MPacker_finish_14 (by decide) (fun hb4 => ?_) (fun hb4 => ?_)
    ·
      rw [if_pos hb4] at h
      obtain rfl := Option.some.inj h
      refine zr_loc (L' := [(0, .ref (b + v0)), (1, .int v1), (2, .int v2), (3, .int v3)]) ⟨rfl, rfl, rfl, rfl, trivial⟩ ?_
      exact hx0 
    ·
      rw [if_neg hb4] at h
      refine zr_aload_n F zd_MPacker_finish_17 rfl ?_
      obtain ⟨le6, hs5, h⟩ := zoS_s h
      obtain ⟨a7, ea7, h⟩ := zoB_s h
      refine zr_get F 12 2 zd_MPacker_finish_18 (zW_o hs5 (by decide)) rfl (by decide) zw_1548 rfl (by rfl) ?_
      refine zr_tor ea7 ?_
      refine zr_iload_n F zd_MPacker_finish_21 rfl ?_
      refine zr_pcn 22 rfl ?_
      refine zr_iload_n F zd_MPacker_finish_22 rfl ?_
      refine zr_iadd F zd_MPacker_finish_23 ?_
      refine zr_iload_n F zd_MPacker_finish_24 rfl ?_
      refine zr_bipushv (v := 24) F zd_MPacker_finish_25 (by decide) ?_
      refine zr_bipushv (v := 8) F zd_MPacker_finish_27 (by decide) ?_
      refine zr_iload_n F zd_MPacker_finish_29 rfl ?_
      refine zr_imul F zd_MPacker_finish_30 ?_
      refine zr_isub F zd_MPacker_finish_31 ?_
      refine zr_pcn 32 rfl ?_
      refine zr_iushr F zd_MPacker_finish_32 ?_
      refine zr_i2b F zd_MPacker_finish_33 ?_
      obtain ⟨x8, ex8, h⟩ := zoL_s h
      rw [← ex8]
      obtain ⟨i9, ei9, h⟩ := zoL_s h
      rw [← ei9]
      obtain ⟨le11, hs10, h⟩ := zoS_s h
      obtain ⟨hi12, h⟩ := zoI_s h
      refine zr_bast F zd_MPacker_finish_34 (zW_a1 hs10) hi12 ?_
      obtain ⟨mm13, emm13, h⟩ := zoL_s h
      refine zr_norm (zW tA b sh mm13) _ (by rw [emm13]; exact zW_s1 hs10) rfl ?_
      refine zr_iinc (v := (v3 + 1)) F zd_MPacker_finish_35 rfl rfl (by decide) ?_
      refine zr_goto F 12 zd_MPacker_finish_38 (by decide) ?_
      refine zr_loc (L' := [(0, .ref (b + v0)), (1, .int v1), (2, .int v2), (3, .int (v3 + 1))]) ⟨rfl, rfl, rfl, rfl, trivial⟩ ?_
      exact ih _ _ _ _ _ _ h hx0
theorem zw_2208 : (Jvm.Cond.methodLink "OrreryBoxModel$Packer" (29 : Nat) ({ cls := "OrreryBoxModel$Packer", name := "crc", desc := "(II)I" } : Jvm.MethodName)) ∈ gw := gw_t 2208 (by decide +kernel) rfl
theorem zw_2210 : (Jvm.Cond.instanceMethod ({ cls := "OrreryBoxModel$Packer", name := "crc", desc := "(II)I" } : Jvm.MethodName)) ∈ gw := gw_t 2210 (by decide +kernel) rfl
theorem zv_122 : (Jvm.Cond.selects "OrreryBoxModel$Packer" (⟨"OrreryBoxModel$Packer", "crc", "(II)I"⟩ : MethodName) ⟨"OrreryBoxModel$Packer", "crc", "(II)I"⟩) ∈ gw := gw_s 122 (by decide +kernel) rfl
theorem zs_MPacker_29 : zwV "OrreryBoxModel$Packer" 29 "OrreryBoxModel$Packer" zy_MPacker_crc zb_MPacker_crc 6 (some .int) := ⟨zw_2208, zw_2210, zv_122, zw_16, zc_MPacker_crc⟩
def F_MPacker_finish (sh : zSh) (mm : zMem) (o : Nat) (x0_ : Int32) : Option zMem := zoS (sh o) 12 (fun le2 => zoL (((mm.1 o 3) - x0_) - 8) (fun x3 => Option.bind (L_MPacker_finish_12 sh zfuel o x0_ x3 0 mm) (fun q14 => zoS (sh (q14.1)) 12 (fun le16 => zoS (sh (q14.1)) 12 (fun le18 => Option.bind (F_MPacker_crc sh (q14.2.2.2.2) (q14.1) (q14.2.1 + 4) ((q14.2.2.2.2).1 (q14.1) 3)) (fun p19 => zoS (sh (q14.1)) 12 (fun le21 => Option.bind (F_MPacker_put4 sh (p19.2) (q14.1) (p19.1)) (fun p22 => some p22))))))))
set_option maxHeartbeats 4000000 in
set_option maxRecDepth 100000 in
theorem k_MPacker_finish (l : Launch) (D : va_G) (tA : Nat → ClassId) (b : Nat) (sh : zSh) (n : Nat) {mm : zMem} {o : Nat} {x0_ : Int32} {r : zMem} (h : F_MPacker_finish sh mm o x0_ = some r) : zM l D tA b zy_MPacker_finish zb_MPacker_finish 4 none 2 43 0 0 [.ref (b + o), .int x0_] (zW tA b sh mm) n (zE none (zW tA b sh r) n) := by
  unfold F_MPacker_finish at h
  refine zM_of (own := "OrreryBoxModel$Packer") (plainFor_of_name (by decide)) rfl (Nat.le_of_ble_eq_true rfl) (fun p e s m below meth c F hr hin hH => ?_)
  refine zr_aload_n F zd_MPacker_finish_0 rfl ?_
  obtain ⟨le2, hs1, h⟩ := zoS_s h
  refine zr_get F 12 3 zd_MPacker_finish_1 (zW_o hs1 (by decide)) rfl (by decide) zw_1550 rfl (by rfl) ?_
  refine zr_iload_n F zd_MPacker_finish_4 rfl ?_
  refine zr_isub F zd_MPacker_finish_5 ?_
  refine zr_bipushv (v := 8) F zd_MPacker_finish_6 (by decide) ?_
  refine zr_isub F zd_MPacker_finish_8 ?_
  obtain ⟨x3, ex3, h⟩ := zoL_s h
  rw [← ex3]
  refine zr_istore_n F zd_MPacker_finish_9 (by decide) ?_
  refine zr_pcn 10 rfl ?_
  refine zr_iconstv (v := 0) F zd_MPacker_finish_10 (by decide) ?_
  refine zr_istore_n F zd_MPacker_finish_11 (by decide) ?_
  obtain ⟨q14, eq14, h⟩ := zoB_s h
  refine zr_loc (L' := [(0, .ref (b + o)), (1, .int x0_), (2, .int x3), (3, .int 0)]) ⟨rfl, rfl, rfl, rfl, trivial⟩ ?_
  refine lp_MPacker_finish_12 F _ _ _ _ _ _ _ eq14 ?_
  ·
    refine zr_aload_n F zd_MPacker_finish_41 rfl ?_
    refine zr_aload_n F zd_MPacker_finish_42 rfl ?_
    refine zr_iload_n F zd_MPacker_finish_43 rfl ?_
    refine zr_pcn 44 rfl ?_
    refine zr_iconstv (v := 4) F zd_MPacker_finish_44 (by decide) ?_
    refine zr_iadd F zd_MPacker_finish_45 ?_
    refine zr_aload_n F zd_MPacker_finish_46 rfl ?_
    obtain ⟨le16, hs15, h⟩ := zoS_s h
    refine zr_get F 12 3 zd_MPacker_finish_47 (zW_o hs15 (by decide)) rfl (by decide) zw_1550 rfl (by rfl) ?_
    obtain ⟨le18, hs17, h⟩ := zoS_s h
    obtain ⟨p19, ep19, h⟩ := zoB_s h
    refine zr_callV1 F (k_MPacker_crc l D tA b sh _ ep19) zd_MPacker_finish_50 (zW_o hs17 (by decide)) rfl zs_MPacker_29 rfl zq_MPacker_crc rfl rfl ⟨(Nat.le_of_ble_eq_true rfl), (Nat.le_of_ble_eq_true rfl)⟩ (Nat.le_of_ble_eq_true rfl) ⟨(Nat.le_of_ble_eq_true rfl), (Nat.le_of_ble_eq_true rfl)⟩ ?_
    obtain ⟨le21, hs20, h⟩ := zoS_s h
    obtain ⟨p22, ep22, h⟩ := zoB_s h
    refine zr_callV0 F (k_MPacker_put4 l D tA b sh _ ep22) zd_MPacker_finish_53 (zW_o hs20 (by decide)) rfl zs_MPacker_26 rfl zq_MPacker_put4 rfl rfl ⟨(Nat.le_of_ble_eq_true rfl), (Nat.le_of_ble_eq_true rfl)⟩ (Nat.le_of_ble_eq_true rfl) ⟨(Nat.le_of_ble_eq_true rfl), (Nat.le_of_ble_eq_true rfl)⟩ ?_
    obtain rfl := Option.some.inj h
    exact zr_vret F hr zd_MPacker_finish_56 (Nat.le_of_ble_eq_true rfl) (Nat.le_of_ble_eq_true rfl) ⟨rfl, rfl, rfl⟩
abbrev zb_MPacker_sum : ByteArray := prog_15_method_8_code
def zy_MPacker_sum : MethodName := ⟨"OrreryBoxModel$Packer", "sum", "()I"⟩
theorem zc_MPacker_sum : Cond.code zy_MPacker_sum zb_MPacker_sum 4 (some .int) ∈ gw := gw_t 2267 (by decide +kernel) rfl
theorem zq_MPacker_sum : zy_MPacker_sum.cls ≠ "java/lang/invoke/MethodHandle" ∧ zy_MPacker_sum.cls ≠ "java/lang/invoke/VarHandle" ∧ (parseMethodDescriptor zy_MPacker_sum.desc).map (fun d => d.parameters.length) = some 0 := by decide +kernel
theorem zd_MPacker_sum_0 : decode zb_MPacker_sum 0 = .ok (.iconst 1, 1) := by decide +kernel
theorem zd_MPacker_sum_1 : decode zb_MPacker_sum 1 = .ok (.istore_n 1, 1) := by decide +kernel
theorem zd_MPacker_sum_2 : decode zb_MPacker_sum 2 = .ok (.iconst 0, 1) := by decide +kernel
theorem zd_MPacker_sum_3 : decode zb_MPacker_sum 3 = .ok (.istore_n 2, 1) := by decide +kernel
theorem zd_MPacker_sum_4 : decode zb_MPacker_sum 4 = .ok (.iconst 0, 1) := by decide +kernel
theorem zd_MPacker_sum_5 : decode zb_MPacker_sum 5 = .ok (.istore_n 3, 1) := by decide +kernel
theorem zd_MPacker_sum_6 : decode zb_MPacker_sum 6 = .ok (.iload_n 3, 1) := by decide +kernel
theorem zd_MPacker_sum_7 : decode zb_MPacker_sum 7 = .ok (.aload_n 0, 1) := by decide +kernel
theorem zd_MPacker_sum_8 : decode zb_MPacker_sum 8 = .ok (.getfield 48, 3) := by decide +kernel
theorem zd_MPacker_sum_11 : decode zb_MPacker_sum 11 = .ok (.if_icmp .ge 28, 3) := by decide +kernel
theorem zd_MPacker_sum_14 : decode zb_MPacker_sum 14 = .ok (.iload_n 1, 1) := by decide +kernel
theorem zd_MPacker_sum_15 : decode zb_MPacker_sum 15 = .ok (.aload_n 0, 1) := by decide +kernel
theorem zd_MPacker_sum_16 : decode zb_MPacker_sum 16 = .ok (.getfield 7, 3) := by decide +kernel
theorem zd_MPacker_sum_19 : decode zb_MPacker_sum 19 = .ok (.iload_n 3, 1) := by decide +kernel
theorem zd_MPacker_sum_20 : decode zb_MPacker_sum 20 = .ok (.iaload, 1) := by decide +kernel
theorem zd_MPacker_sum_21 : decode zb_MPacker_sum 21 = .ok (.iadd, 1) := by decide +kernel
theorem zd_MPacker_sum_22 : decode zb_MPacker_sum 22 = .ok (.ldc 61, 2) := by decide +kernel
theorem zd_MPacker_sum_24 : decode zb_MPacker_sum 24 = .ok (.irem, 1) := by decide +kernel
theorem zd_MPacker_sum_25 : decode zb_MPacker_sum 25 = .ok (.istore_n 1, 1) := by decide +kernel
theorem zd_MPacker_sum_26 : decode zb_MPacker_sum 26 = .ok (.iload_n 2, 1) := by decide +kernel
theorem zd_MPacker_sum_27 : decode zb_MPacker_sum 27 = .ok (.iload_n 1, 1) := by decide +kernel
theorem zd_MPacker_sum_28 : decode zb_MPacker_sum 28 = .ok (.iadd, 1) := by decide +kernel
theorem zd_MPacker_sum_29 : decode zb_MPacker_sum 29 = .ok (.ldc 61, 2) := by decide +kernel
theorem zd_MPacker_sum_31 : decode zb_MPacker_sum 31 = .ok (.irem, 1) := by decide +kernel
theorem zd_MPacker_sum_32 : decode zb_MPacker_sum 32 = .ok (.istore_n 2, 1) := by decide +kernel
theorem zd_MPacker_sum_33 : decode zb_MPacker_sum 33 = .ok (.iinc 3 1, 3) := by decide +kernel
theorem zd_MPacker_sum_36 : decode zb_MPacker_sum 36 = .ok (.goto (-30), 3) := by decide +kernel
theorem zd_MPacker_sum_39 : decode zb_MPacker_sum 39 = .ok (.iload_n 2, 1) := by decide +kernel
theorem zd_MPacker_sum_40 : decode zb_MPacker_sum 40 = .ok (.ldc 62, 2) := by decide +kernel
theorem zd_MPacker_sum_42 : decode zb_MPacker_sum 42 = .ok (.imul, 1) := by decide +kernel
theorem zd_MPacker_sum_43 : decode zb_MPacker_sum 43 = .ok (.iload_n 1, 1) := by decide +kernel
theorem zd_MPacker_sum_44 : decode zb_MPacker_sum 44 = .ok (.iadd, 1) := by decide +kernel
theorem zd_MPacker_sum_45 : decode zb_MPacker_sum 45 = .ok (.ireturn, 1) := by decide +kernel
theorem zw_1547 : (Jvm.Cond.fieldLink "OrreryBoxModel$Packer" (48 : Nat) "OrreryBoxModel$Packer" "rowsLong" "I") ∈ gw := gw_t 1547 (by decide +kernel) rfl
theorem zw_2268 : (Jvm.Cond.constant "OrreryBoxModel$Packer" (61 : Nat) (65521 : Int32)) ∈ gw := gw_t 2268 (by decide +kernel) rfl
def L_MPacker_sum_6 (sh : zSh) (fuel : Nat) (v0 : Nat) (v1 : Int32) (v2 : Int32) (v3 : Int32) (mm : zMem) : Option (Nat × Int32 × Int32 × Int32 × zMem) := match fuel with
  | 0 => none
  | fu + 1 => zoS (sh v0) 12 (fun le2 => (if (mm.1 v0 1) ≤ v3 then some (v0, v1, v2, v3, mm) else zoS (sh v0) 12 (fun le5 => Option.bind (mm.2.2 v0 0) (fun a6 => zoS (sh a6) 100 (fun le8 => if (v3 : Int32) < 0 ∨ le8 ≤ (v3 : Int32).toNatClampNeg then none else zoL ((v1 + (mm.1 a6 (v3 : Int32).toNatClampNeg)) - (v1 + (mm.1 a6 (v3 : Int32).toNatClampNeg)) / 65521 * 65521) (fun x10 => zoL ((v2 + x10) - (v2 + x10) / 65521 * 65521) (fun x11 => L_MPacker_sum_6 sh fu v0 x10 x11 (v3 + 1) mm)))))))
set_option maxHeartbeats 4000000 in
set_option maxRecDepth 100000 in
theorem lp_MPacker_sum_6 {p : Program} {l : Launch} {e : Env} {s : State} {m : MethodId} {args : Array Value} {below : List Frame} {meth : Method} {c : Code} {D : va_G} {tA : Nat → ClassId} {b n : Nat} {post : Option Value → zV → Nat → Prop} {sh : zSh} (F : zF p s m args meth c zb_MPacker_sum 4 "OrreryBoxModel$Packer" D tA b) : ∀ (fuel : Nat) (v0 : Nat) (v1 : Int32) (v2 : Int32) (v3 : Int32) (mm : zMem) (r : Nat × Int32 × Int32 × Int32 × zMem), L_MPacker_sum_6 sh fuel v0 v1 v2 v3 mm = some r → (Z p l e { frames := 0, cells := 0, slots := 0, locals := 0 } s m args below meth c D b 4 (MQ below (zQ D b post) args s 0 0 (fun q => b ≤ q)) (zW tA b sh r.2.2.2.2) n 0 0 39 [(0, .ref (b + (r.1))), (1, .int (r.2.1)), (2, .int (r.2.2.1)), (3, .int (r.2.2.2.1))] []) → Z p l e { frames := 0, cells := 0, slots := 0, locals := 0 } s m args below meth c D b 4 (MQ below (zQ D b post) args s 0 0 (fun q => b ≤ q)) (zW tA b sh mm) n 0 0 6 [(0, .ref (b + v0)), (1, .int v1), (2, .int v2), (3, .int v3)] [] := by
  intro fuel
  induction fuel with
  | zero =>
    intro v0 v1 v2 v3 mm r h
    cases h
  | succ fu ih =>
    intro v0 v1 v2 v3 mm r h hx0
    rw [L_MPacker_sum_6] at h
    refine zr_iload_n F zd_MPacker_sum_6 rfl ?_
    refine zr_pcn 7 rfl ?_
    refine zr_aload_n F zd_MPacker_sum_7 rfl ?_
    obtain ⟨le2, hs1, h⟩ := zoS_s h
    refine zr_get F 12 1 zd_MPacker_sum_8 (zW_o hs1 (by decide)) rfl (by decide) zw_1547 rfl (by rfl) ?_
    refine zr_icmp_ge F 39 zd_MPacker_sum_11 (by decide) (fun hb3 => ?_) (fun hb3 => ?_)
    ·
      rw [if_pos hb3] at h
      obtain rfl := Option.some.inj h
      refine zr_loc (L' := [(0, .ref (b + v0)), (1, .int v1), (2, .int v2), (3, .int v3)]) ⟨rfl, rfl, rfl, rfl, trivial⟩ ?_
      exact hx0 
    ·
      rw [if_neg hb3] at h
      refine zr_iload_n F zd_MPacker_sum_14 rfl ?_
      refine zr_aload_n F zd_MPacker_sum_15 rfl ?_
      obtain ⟨le5, hs4, h⟩ := zoS_s h
      obtain ⟨a6, ea6, h⟩ := zoB_s h
      refine zr_get F 12 0 zd_MPacker_sum_16 (zW_o hs4 (by decide)) rfl (by decide) zw_1546 rfl (by rfl) ?_
      refine zr_tor ea6 ?_
      refine zr_iload_n F zd_MPacker_sum_19 rfl ?_
      obtain ⟨le8, hs7, h⟩ := zoS_s h
      obtain ⟨hi9, h⟩ := zoI_s h
      refine zr_iald F zd_MPacker_sum_20 (zW_a0 hs7) hi9 ?_
      refine zr_pcn 21 rfl ?_
      refine zr_iadd F zd_MPacker_sum_21 ?_
      refine zr_ldc F zd_MPacker_sum_22 zw_2268 ?_
      refine zr_irem F zd_MPacker_sum_24 (by decide) ?_
      obtain ⟨x10, ex10, h⟩ := zoL_s h
      rw [← ex10]
      refine zr_istore_n F zd_MPacker_sum_25 (by decide) ?_
      refine zr_iload_n F zd_MPacker_sum_26 rfl ?_
      refine zr_iload_n F zd_MPacker_sum_27 rfl ?_
      refine zr_iadd F zd_MPacker_sum_28 ?_
      refine zr_ldc F zd_MPacker_sum_29 zw_2268 ?_
      refine zr_pcn 31 rfl ?_
      refine zr_irem F zd_MPacker_sum_31 (by decide) ?_
      obtain ⟨x11, ex11, h⟩ := zoL_s h
      rw [← ex11]
      refine zr_istore_n F zd_MPacker_sum_32 (by decide) ?_
      refine zr_iinc (v := (v3 + 1)) F zd_MPacker_sum_33 rfl rfl (by decide) ?_
      refine zr_goto F 6 zd_MPacker_sum_36 (by decide) ?_
      refine zr_loc (L' := [(0, .ref (b + v0)), (1, .int x10), (2, .int x11), (3, .int (v3 + 1))]) ⟨rfl, rfl, rfl, rfl, trivial⟩ ?_
      exact ih _ _ _ _ _ _ h hx0
theorem zw_2269 : (Jvm.Cond.constant "OrreryBoxModel$Packer" (62 : Nat) (65536 : Int32)) ∈ gw := gw_t 2269 (by decide +kernel) rfl
def F_MPacker_sum (sh : zSh) (mm : zMem) (o : Nat) : Option (Int32 × zMem) := Option.bind (L_MPacker_sum_6 sh zfuel o 1 0 0 mm) (fun q12 => some (((q12.2.2.1 * 65536) + q12.2.1), q12.2.2.2.2))
set_option maxHeartbeats 4000000 in
set_option maxRecDepth 100000 in
theorem k_MPacker_sum (l : Launch) (D : va_G) (tA : Nat → ClassId) (b : Nat) (sh : zSh) (n : Nat) {mm : zMem} {o : Nat} {r : (Int32 × zMem)} (h : F_MPacker_sum sh mm o = some r) : zM l D tA b zy_MPacker_sum zb_MPacker_sum 4 (some .int) 0 0 0 0 [.ref (b + o)] (zW tA b sh mm) n (zE (some (.int (r.1))) (zW tA b sh r.2) n) := by
  unfold F_MPacker_sum at h
  refine zM_of (own := "OrreryBoxModel$Packer") (plainFor_of_name (by decide)) rfl (Nat.le_of_ble_eq_true rfl) (fun p e s m below meth c F hr hin hH => ?_)
  refine zr_iconstv (v := 1) F zd_MPacker_sum_0 (by decide) ?_
  refine zr_istore_n F zd_MPacker_sum_1 (by decide) ?_
  refine zr_iconstv (v := 0) F zd_MPacker_sum_2 (by decide) ?_
  refine zr_istore_n F zd_MPacker_sum_3 (by decide) ?_
  refine zr_iconstv (v := 0) F zd_MPacker_sum_4 (by decide) ?_
  refine zr_istore_n F zd_MPacker_sum_5 (by decide) ?_
  obtain ⟨q12, eq12, h⟩ := zoB_s h
  refine zr_loc (L' := [(0, .ref (b + o)), (1, .int 1), (2, .int 0), (3, .int 0)]) ⟨rfl, rfl, rfl, rfl, trivial⟩ ?_
  refine lp_MPacker_sum_6 F _ _ _ _ _ _ _ eq12 ?_
  ·
    refine zr_iload_n F zd_MPacker_sum_39 rfl ?_
    refine zr_ldc F zd_MPacker_sum_40 zw_2269 ?_
    refine zr_imul F zd_MPacker_sum_42 ?_
    refine zr_iload_n F zd_MPacker_sum_43 rfl ?_
    refine zr_pcn 44 rfl ?_
    refine zr_iadd F zd_MPacker_sum_44 ?_
    obtain rfl := Option.some.inj h
    exact zr_iret F hr zd_MPacker_sum_45 (Nat.le_of_ble_eq_true rfl) (Nat.le_of_ble_eq_true rfl) ⟨rfl, rfl, rfl⟩
abbrev zb_MPacker_at : ByteArray := prog_15_method_9_code
def zy_MPacker_at : MethodName := ⟨"OrreryBoxModel$Packer", "at", "(II)I"⟩
theorem zc_MPacker_at : Cond.code zy_MPacker_at zb_MPacker_at 3 (some .int) ∈ gw := gw_t 2224 (by decide +kernel) rfl
theorem zq_MPacker_at : zy_MPacker_at.cls ≠ "java/lang/invoke/MethodHandle" ∧ zy_MPacker_at.cls ≠ "java/lang/invoke/VarHandle" ∧ (parseMethodDescriptor zy_MPacker_at.desc).map (fun d => d.parameters.length) = some 2 := by decide +kernel
theorem zd_MPacker_at_0 : decode zb_MPacker_at 0 = .ok (.iload_n 1, 1) := by decide +kernel
theorem zd_MPacker_at_1 : decode zb_MPacker_at 1 = .ok (.ifCond .lt 7, 3) := by decide +kernel
theorem zd_MPacker_at_4 : decode zb_MPacker_at 4 = .ok (.iload_n 2, 1) := by decide +kernel
theorem zd_MPacker_at_5 : decode zb_MPacker_at 5 = .ok (.ifCond .ge 7, 3) := by decide +kernel
theorem zd_MPacker_at_8 : decode zb_MPacker_at 8 = .ok (.iconst 0, 1) := by decide +kernel
theorem zd_MPacker_at_9 : decode zb_MPacker_at 9 = .ok (.goto 18, 3) := by decide +kernel
theorem zd_MPacker_at_12 : decode zb_MPacker_at 12 = .ok (.aload_n 0, 1) := by decide +kernel
theorem zd_MPacker_at_13 : decode zb_MPacker_at 13 = .ok (.getfield 36, 3) := by decide +kernel
theorem zd_MPacker_at_16 : decode zb_MPacker_at 16 = .ok (.iconst 3, 1) := by decide +kernel
theorem zd_MPacker_at_17 : decode zb_MPacker_at 17 = .ok (.aload_n 0, 1) := by decide +kernel
theorem zd_MPacker_at_18 : decode zb_MPacker_at 18 = .ok (.getfield 33, 3) := by decide +kernel
theorem zd_MPacker_at_21 : decode zb_MPacker_at 21 = .ok (.imul, 1) := by decide +kernel
theorem zd_MPacker_at_22 : decode zb_MPacker_at 22 = .ok (.iload_n 2, 1) := by decide +kernel
theorem zd_MPacker_at_23 : decode zb_MPacker_at 23 = .ok (.imul, 1) := by decide +kernel
theorem zd_MPacker_at_24 : decode zb_MPacker_at 24 = .ok (.iload_n 1, 1) := by decide +kernel
theorem zd_MPacker_at_25 : decode zb_MPacker_at 25 = .ok (.iadd, 1) := by decide +kernel
theorem zd_MPacker_at_26 : decode zb_MPacker_at 26 = .ok (.iaload, 1) := by decide +kernel
theorem zd_MPacker_at_27 : decode zb_MPacker_at 27 = .ok (.ireturn, 1) := by decide +kernel
theorem zw_1554 : (Jvm.Cond.fieldLink "OrreryBoxModel$Packer" (36 : Nat) "OrreryBoxModel$Packer" "colours" "[I") ∈ gw := gw_t 1554 (by decide +kernel) rfl
theorem zw_1553 : (Jvm.Cond.fieldLink "OrreryBoxModel$Packer" (33 : Nat) "OrreryBoxModel$Packer" "width" "I") ∈ gw := gw_t 1553 (by decide +kernel) rfl
def F_MPacker_at (sh : zSh) (mm : zMem) (o : Nat) (x0_ : Int32) (x1_ : Int32) : Option (Int32 × zMem) := (if x0_ < 0 then some (0, mm) else (if 0 ≤ x1_ then zoS (sh o) 12 (fun le4 => Option.bind (mm.2.2 o 6) (fun a5 => zoS (sh o) 12 (fun le7 => zoL (((3 * (mm.1 o 5)) * x1_) + x0_) (fun i8 => zoS (sh a5) 100 (fun le10 => if (i8 : Int32) < 0 ∨ le10 ≤ (i8 : Int32).toNatClampNeg then none else some ((mm.1 a5 (i8 : Int32).toNatClampNeg), mm)))))) else some (0, mm)))
set_option maxHeartbeats 4000000 in
set_option maxRecDepth 100000 in
theorem k_MPacker_at (l : Launch) (D : va_G) (tA : Nat → ClassId) (b : Nat) (sh : zSh) (n : Nat) {mm : zMem} {o : Nat} {x0_ : Int32} {x1_ : Int32} {r : (Int32 × zMem)} (h : F_MPacker_at sh mm o x0_ x1_ = some r) : zM l D tA b zy_MPacker_at zb_MPacker_at 3 (some .int) 0 0 0 0 [.ref (b + o), .int x0_, .int x1_] (zW tA b sh mm) n (zE (some (.int (r.1))) (zW tA b sh r.2) n) := by
  unfold F_MPacker_at at h
  refine zM_of (own := "OrreryBoxModel$Packer") (plainFor_of_name (by decide)) rfl (Nat.le_of_ble_eq_true rfl) (fun p e s m below meth c F hr hin hH => ?_)
  refine zr_iload_n F zd_MPacker_at_0 rfl ?_
  refine zr_if_lt F 8 zd_MPacker_at_1 (by decide) (fun hb1 => ?_) (fun hb1 => ?_)
  ·
    rw [if_pos hb1] at h
    refine zr_iconstv (v := 0) F zd_MPacker_at_8 (by decide) ?_
    refine zr_goto F 27 zd_MPacker_at_9 (by decide) ?_
    obtain rfl := Option.some.inj h
    exact zr_iret F hr zd_MPacker_at_27 (Nat.le_of_ble_eq_true rfl) (Nat.le_of_ble_eq_true rfl) ⟨rfl, rfl, rfl⟩
  ·
    rw [if_neg hb1] at h
    refine zr_iload_n F zd_MPacker_at_4 rfl ?_
    refine zr_if_ge F 12 zd_MPacker_at_5 (by decide) (fun hb2 => ?_) (fun hb2 => ?_)
    ·
      rw [if_pos hb2] at h
      refine zr_pcn 12 rfl ?_
      refine zr_aload_n F zd_MPacker_at_12 rfl ?_
      obtain ⟨le4, hs3, h⟩ := zoS_s h
      obtain ⟨a5, ea5, h⟩ := zoB_s h
      refine zr_get F 12 6 zd_MPacker_at_13 (zW_o hs3 (by decide)) rfl (by decide) zw_1554 rfl (by rfl) ?_
      refine zr_tor ea5 ?_
      refine zr_iconstv (v := 3) F zd_MPacker_at_16 (by decide) ?_
      refine zr_aload_n F zd_MPacker_at_17 rfl ?_
      obtain ⟨le7, hs6, h⟩ := zoS_s h
      refine zr_get F 12 5 zd_MPacker_at_18 (zW_o hs6 (by decide)) rfl (by decide) zw_1553 rfl (by rfl) ?_
      refine zr_imul F zd_MPacker_at_21 ?_
      refine zr_iload_n F zd_MPacker_at_22 rfl ?_
      refine zr_imul F zd_MPacker_at_23 ?_
      refine zr_pcn 24 rfl ?_
      refine zr_iload_n F zd_MPacker_at_24 rfl ?_
      refine zr_iadd F zd_MPacker_at_25 ?_
      obtain ⟨i8, ei8, h⟩ := zoL_s h
      rw [← ei8]
      obtain ⟨le10, hs9, h⟩ := zoS_s h
      obtain ⟨hi11, h⟩ := zoI_s h
      refine zr_iald F zd_MPacker_at_26 (zW_a0 hs9) hi11 ?_
      obtain rfl := Option.some.inj h
      exact zr_iret F hr zd_MPacker_at_27 (Nat.le_of_ble_eq_true rfl) (Nat.le_of_ble_eq_true rfl) ⟨rfl, rfl, rfl⟩
    ·
      rw [if_neg hb2] at h
      refine zr_iconstv (v := 0) F zd_MPacker_at_8 (by decide) ?_
      refine zr_goto F 27 zd_MPacker_at_9 (by decide) ?_
      obtain rfl := Option.some.inj h
      exact zr_iret F hr zd_MPacker_at_27 (Nat.le_of_ble_eq_true rfl) (Nat.le_of_ble_eq_true rfl) ⟨rfl, rfl, rfl⟩
abbrev zb_MPacker_guess : ByteArray := prog_15_method_10_code
def zy_MPacker_guess : MethodName := ⟨"OrreryBoxModel$Packer", "guess", "(III)I"⟩
theorem zc_MPacker_guess : Cond.code zy_MPacker_guess zb_MPacker_guess 11 (some .int) ∈ gw := gw_t 2228 (by decide +kernel) rfl
theorem zq_MPacker_guess : zy_MPacker_guess.cls ≠ "java/lang/invoke/MethodHandle" ∧ zy_MPacker_guess.cls ≠ "java/lang/invoke/VarHandle" ∧ (parseMethodDescriptor zy_MPacker_guess.desc).map (fun d => d.parameters.length) = some 3 := by decide +kernel
theorem zd_MPacker_guess_0 : decode zb_MPacker_guess 0 = .ok (.aload_n 0, 1) := by decide +kernel
theorem zd_MPacker_guess_1 : decode zb_MPacker_guess 1 = .ok (.iload_n 2, 1) := by decide +kernel
theorem zd_MPacker_guess_2 : decode zb_MPacker_guess 2 = .ok (.iconst 3, 1) := by decide +kernel
theorem zd_MPacker_guess_3 : decode zb_MPacker_guess 3 = .ok (.isub, 1) := by decide +kernel
theorem zd_MPacker_guess_4 : decode zb_MPacker_guess 4 = .ok (.iload_n 3, 1) := by decide +kernel
theorem zd_MPacker_guess_5 : decode zb_MPacker_guess 5 = .ok (.invokevirtual 63, 3) := by decide +kernel
theorem zd_MPacker_guess_8 : decode zb_MPacker_guess 8 = .ok (.istore 4, 2) := by decide +kernel
theorem zd_MPacker_guess_10 : decode zb_MPacker_guess 10 = .ok (.aload_n 0, 1) := by decide +kernel
theorem zd_MPacker_guess_11 : decode zb_MPacker_guess 11 = .ok (.iload_n 2, 1) := by decide +kernel
theorem zd_MPacker_guess_12 : decode zb_MPacker_guess 12 = .ok (.iload_n 3, 1) := by decide +kernel
theorem zd_MPacker_guess_13 : decode zb_MPacker_guess 13 = .ok (.iconst 1, 1) := by decide +kernel
theorem zd_MPacker_guess_14 : decode zb_MPacker_guess 14 = .ok (.isub, 1) := by decide +kernel
theorem zd_MPacker_guess_15 : decode zb_MPacker_guess 15 = .ok (.invokevirtual 63, 3) := by decide +kernel
theorem zd_MPacker_guess_18 : decode zb_MPacker_guess 18 = .ok (.istore 5, 2) := by decide +kernel
theorem zd_MPacker_guess_20 : decode zb_MPacker_guess 20 = .ok (.aload_n 0, 1) := by decide +kernel
theorem zd_MPacker_guess_21 : decode zb_MPacker_guess 21 = .ok (.iload_n 2, 1) := by decide +kernel
theorem zd_MPacker_guess_22 : decode zb_MPacker_guess 22 = .ok (.iconst 3, 1) := by decide +kernel
theorem zd_MPacker_guess_23 : decode zb_MPacker_guess 23 = .ok (.isub, 1) := by decide +kernel
theorem zd_MPacker_guess_24 : decode zb_MPacker_guess 24 = .ok (.iload_n 3, 1) := by decide +kernel
theorem zd_MPacker_guess_25 : decode zb_MPacker_guess 25 = .ok (.iconst 1, 1) := by decide +kernel
theorem zd_MPacker_guess_26 : decode zb_MPacker_guess 26 = .ok (.isub, 1) := by decide +kernel
theorem zd_MPacker_guess_27 : decode zb_MPacker_guess 27 = .ok (.invokevirtual 63, 3) := by decide +kernel
theorem zd_MPacker_guess_30 : decode zb_MPacker_guess 30 = .ok (.istore 6, 2) := by decide +kernel
theorem zd_MPacker_guess_32 : decode zb_MPacker_guess 32 = .ok (.iload_n 1, 1) := by decide +kernel
theorem zd_MPacker_guess_33 : decode zb_MPacker_guess 33 = .ok (.ifCond .ne 5, 3) := by decide +kernel
theorem zd_MPacker_guess_36 : decode zb_MPacker_guess 36 = .ok (.iconst 0, 1) := by decide +kernel
theorem zd_MPacker_guess_37 : decode zb_MPacker_guess 37 = .ok (.ireturn, 1) := by decide +kernel
theorem zd_MPacker_guess_38 : decode zb_MPacker_guess 38 = .ok (.iload_n 1, 1) := by decide +kernel
theorem zd_MPacker_guess_39 : decode zb_MPacker_guess 39 = .ok (.iconst 1, 1) := by decide +kernel
theorem zd_MPacker_guess_40 : decode zb_MPacker_guess 40 = .ok (.if_icmp .ne 6, 3) := by decide +kernel
theorem zd_MPacker_guess_43 : decode zb_MPacker_guess 43 = .ok (.iload 4, 2) := by decide +kernel
theorem zd_MPacker_guess_45 : decode zb_MPacker_guess 45 = .ok (.ireturn, 1) := by decide +kernel
theorem zd_MPacker_guess_46 : decode zb_MPacker_guess 46 = .ok (.iload_n 1, 1) := by decide +kernel
theorem zd_MPacker_guess_47 : decode zb_MPacker_guess 47 = .ok (.iconst 2, 1) := by decide +kernel
theorem zd_MPacker_guess_48 : decode zb_MPacker_guess 48 = .ok (.if_icmp .ne 6, 3) := by decide +kernel
theorem zd_MPacker_guess_51 : decode zb_MPacker_guess 51 = .ok (.iload 5, 2) := by decide +kernel
theorem zd_MPacker_guess_53 : decode zb_MPacker_guess 53 = .ok (.ireturn, 1) := by decide +kernel
theorem zd_MPacker_guess_54 : decode zb_MPacker_guess 54 = .ok (.iload_n 1, 1) := by decide +kernel
theorem zd_MPacker_guess_55 : decode zb_MPacker_guess 55 = .ok (.iconst 3, 1) := by decide +kernel
theorem zd_MPacker_guess_56 : decode zb_MPacker_guess 56 = .ok (.if_icmp .ne 11, 3) := by decide +kernel
theorem zd_MPacker_guess_59 : decode zb_MPacker_guess 59 = .ok (.iload 4, 2) := by decide +kernel
theorem zd_MPacker_guess_61 : decode zb_MPacker_guess 61 = .ok (.iload 5, 2) := by decide +kernel
theorem zd_MPacker_guess_63 : decode zb_MPacker_guess 63 = .ok (.iadd, 1) := by decide +kernel
theorem zd_MPacker_guess_64 : decode zb_MPacker_guess 64 = .ok (.iconst 2, 1) := by decide +kernel
theorem zd_MPacker_guess_65 : decode zb_MPacker_guess 65 = .ok (.idiv, 1) := by decide +kernel
theorem zd_MPacker_guess_66 : decode zb_MPacker_guess 66 = .ok (.ireturn, 1) := by decide +kernel
theorem zd_MPacker_guess_67 : decode zb_MPacker_guess 67 = .ok (.iload 4, 2) := by decide +kernel
theorem zd_MPacker_guess_69 : decode zb_MPacker_guess 69 = .ok (.iload 5, 2) := by decide +kernel
theorem zd_MPacker_guess_71 : decode zb_MPacker_guess 71 = .ok (.iadd, 1) := by decide +kernel
theorem zd_MPacker_guess_72 : decode zb_MPacker_guess 72 = .ok (.iload 6, 2) := by decide +kernel
theorem zd_MPacker_guess_74 : decode zb_MPacker_guess 74 = .ok (.isub, 1) := by decide +kernel
theorem zd_MPacker_guess_75 : decode zb_MPacker_guess 75 = .ok (.istore 7, 2) := by decide +kernel
theorem zd_MPacker_guess_77 : decode zb_MPacker_guess 77 = .ok (.iload 7, 2) := by decide +kernel
theorem zd_MPacker_guess_79 : decode zb_MPacker_guess 79 = .ok (.iload 4, 2) := by decide +kernel
theorem zd_MPacker_guess_81 : decode zb_MPacker_guess 81 = .ok (.isub, 1) := by decide +kernel
theorem zd_MPacker_guess_82 : decode zb_MPacker_guess 82 = .ok (.invokestatic 66, 3) := by decide +kernel
theorem zd_MPacker_guess_85 : decode zb_MPacker_guess 85 = .ok (.istore 8, 2) := by decide +kernel
theorem zd_MPacker_guess_87 : decode zb_MPacker_guess 87 = .ok (.iload 7, 2) := by decide +kernel
theorem zd_MPacker_guess_89 : decode zb_MPacker_guess 89 = .ok (.iload 5, 2) := by decide +kernel
theorem zd_MPacker_guess_91 : decode zb_MPacker_guess 91 = .ok (.isub, 1) := by decide +kernel
theorem zd_MPacker_guess_92 : decode zb_MPacker_guess 92 = .ok (.invokestatic 66, 3) := by decide +kernel
theorem zd_MPacker_guess_95 : decode zb_MPacker_guess 95 = .ok (.istore 9, 2) := by decide +kernel
theorem zd_MPacker_guess_97 : decode zb_MPacker_guess 97 = .ok (.iload 7, 2) := by decide +kernel
theorem zd_MPacker_guess_99 : decode zb_MPacker_guess 99 = .ok (.iload 6, 2) := by decide +kernel
theorem zd_MPacker_guess_101 : decode zb_MPacker_guess 101 = .ok (.isub, 1) := by decide +kernel
theorem zd_MPacker_guess_102 : decode zb_MPacker_guess 102 = .ok (.invokestatic 66, 3) := by decide +kernel
theorem zd_MPacker_guess_105 : decode zb_MPacker_guess 105 = .ok (.istore 10, 2) := by decide +kernel
theorem zd_MPacker_guess_107 : decode zb_MPacker_guess 107 = .ok (.iload 8, 2) := by decide +kernel
theorem zd_MPacker_guess_109 : decode zb_MPacker_guess 109 = .ok (.iload 9, 2) := by decide +kernel
theorem zd_MPacker_guess_111 : decode zb_MPacker_guess 111 = .ok (.if_icmp .gt 15, 3) := by decide +kernel
theorem zd_MPacker_guess_114 : decode zb_MPacker_guess 114 = .ok (.iload 8, 2) := by decide +kernel
theorem zd_MPacker_guess_116 : decode zb_MPacker_guess 116 = .ok (.iload 10, 2) := by decide +kernel
theorem zd_MPacker_guess_118 : decode zb_MPacker_guess 118 = .ok (.if_icmp .gt 8, 3) := by decide +kernel
theorem zd_MPacker_guess_121 : decode zb_MPacker_guess 121 = .ok (.iload 4, 2) := by decide +kernel
theorem zd_MPacker_guess_123 : decode zb_MPacker_guess 123 = .ok (.goto 17, 3) := by decide +kernel
theorem zd_MPacker_guess_126 : decode zb_MPacker_guess 126 = .ok (.iload 9, 2) := by decide +kernel
theorem zd_MPacker_guess_128 : decode zb_MPacker_guess 128 = .ok (.iload 10, 2) := by decide +kernel
theorem zd_MPacker_guess_130 : decode zb_MPacker_guess 130 = .ok (.if_icmp .gt 8, 3) := by decide +kernel
theorem zd_MPacker_guess_133 : decode zb_MPacker_guess 133 = .ok (.iload 5, 2) := by decide +kernel
theorem zd_MPacker_guess_135 : decode zb_MPacker_guess 135 = .ok (.goto 5, 3) := by decide +kernel
theorem zd_MPacker_guess_138 : decode zb_MPacker_guess 138 = .ok (.iload 6, 2) := by decide +kernel
theorem zd_MPacker_guess_140 : decode zb_MPacker_guess 140 = .ok (.ireturn, 1) := by decide +kernel
theorem zw_2221 : (Jvm.Cond.methodLink "OrreryBoxModel$Packer" (63 : Nat) ({ cls := "OrreryBoxModel$Packer", name := "at", desc := "(II)I" } : Jvm.MethodName)) ∈ gw := gw_t 2221 (by decide +kernel) rfl
theorem zw_2223 : (Jvm.Cond.instanceMethod ({ cls := "OrreryBoxModel$Packer", name := "at", desc := "(II)I" } : Jvm.MethodName)) ∈ gw := gw_t 2223 (by decide +kernel) rfl
theorem zv_125 : (Jvm.Cond.selects "OrreryBoxModel$Packer" (⟨"OrreryBoxModel$Packer", "at", "(II)I"⟩ : MethodName) ⟨"OrreryBoxModel$Packer", "at", "(II)I"⟩) ∈ gw := gw_s 125 (by decide +kernel) rfl
theorem zs_MPacker_63 : zwV "OrreryBoxModel$Packer" 63 "OrreryBoxModel$Packer" zy_MPacker_at zb_MPacker_at 3 (some .int) := ⟨zw_2221, zw_2223, zv_125, zw_16, zc_MPacker_at⟩
theorem zw_2229 : (Jvm.Cond.methodLink "OrreryBoxModel$Packer" (66 : Nat) ({ cls := "java/lang/Math", name := "abs", desc := "(I)I" } : Jvm.MethodName)) ∈ gw := gw_t 2229 (by decide +kernel) rfl
theorem zs_MPacker_66 : zwS "OrreryBoxModel$Packer" 66 zy_JMath_abs zb_JMath_abs 1 (some .int) := ⟨zw_2229, zw_932, zw_4, zc_JMath_abs⟩
def F_MPacker_guess (sh : zSh) (mm : zMem) (o : Nat) (x0_ : Int32) (x1_ : Int32) (x2_ : Int32) : Option (Int32 × zMem) := zoS (sh o) 12 (fun le2 => Option.bind (F_MPacker_at sh mm o (x1_ - 3) x2_) (fun p3 => zoS (sh o) 12 (fun le5 => Option.bind (F_MPacker_at sh (p3.2) o x1_ (x2_ - 1)) (fun p6 => zoS (sh o) 12 (fun le8 => Option.bind (F_MPacker_at sh (p6.2) o (x1_ - 3) (x2_ - 1)) (fun p9 => (if x0_ = 0 then some (0, p9.2) else (if x0_ = 1 then some (p3.1, p9.2) else (if x0_ = 2 then some (p6.1, p9.2) else (if x0_ = 3 then some (((p3.1 + p6.1) / 2), p9.2) else zoL ((p3.1 + p6.1) - p9.1) (fun x14 => zoL (sp_JMath_abs (x14 - p3.1)) (fun x16 => zoL (sp_JMath_abs (x14 - p6.1)) (fun x18 => zoL (sp_JMath_abs (x14 - p9.1)) (fun x20 => (if x18 < x16 then (if x20 < x18 then some (p9.1, p9.2) else some (p6.1, p9.2)) else (if x20 < x16 then (if x20 < x18 then some (p9.1, p9.2) else some (p6.1, p9.2)) else some (p3.1, p9.2)))))))))))))))))
set_option maxHeartbeats 4000000 in
set_option maxRecDepth 100000 in
theorem k_MPacker_guess (l : Launch) (D : va_G) (tA : Nat → ClassId) (b : Nat) (sh : zSh) (n : Nat) {mm : zMem} {o : Nat} {x0_ : Int32} {x1_ : Int32} {x2_ : Int32} {r : (Int32 × zMem)} (h : F_MPacker_guess sh mm o x0_ x1_ x2_ = some r) : zM l D tA b zy_MPacker_guess zb_MPacker_guess 11 (some .int) 1 22 0 0 [.ref (b + o), .int x0_, .int x1_, .int x2_] (zW tA b sh mm) n (zE (some (.int (r.1))) (zW tA b sh r.2) n) := by
  unfold F_MPacker_guess at h
  refine zM_of (own := "OrreryBoxModel$Packer") (plainFor_of_name (by decide)) rfl (Nat.le_of_ble_eq_true rfl) (fun p e s m below meth c F hr hin hH => ?_)
  refine zr_aload_n F zd_MPacker_guess_0 rfl ?_
  refine zr_iload_n F zd_MPacker_guess_1 rfl ?_
  refine zr_iconstv (v := 3) F zd_MPacker_guess_2 (by decide) ?_
  refine zr_isub F zd_MPacker_guess_3 ?_
  refine zr_iload_n F zd_MPacker_guess_4 rfl ?_
  obtain ⟨le2, hs1, h⟩ := zoS_s h
  obtain ⟨p3, ep3, h⟩ := zoB_s h
  refine zr_callV1 F (k_MPacker_at l D tA b sh _ ep3) zd_MPacker_guess_5 (zW_o hs1 (by decide)) rfl zs_MPacker_63 rfl zq_MPacker_at rfl rfl ⟨(Nat.le_of_ble_eq_true rfl), (Nat.le_of_ble_eq_true rfl)⟩ (Nat.le_of_ble_eq_true rfl) ⟨(Nat.le_of_ble_eq_true rfl), (Nat.le_of_ble_eq_true rfl)⟩ ?_
  refine zr_istore F zd_MPacker_guess_8 (by decide) ?_
  refine zr_pcn 10 rfl ?_
  refine zr_aload_n F zd_MPacker_guess_10 rfl ?_
  refine zr_iload_n F zd_MPacker_guess_11 rfl ?_
  refine zr_iload_n F zd_MPacker_guess_12 rfl ?_
  refine zr_iconstv (v := 1) F zd_MPacker_guess_13 (by decide) ?_
  refine zr_isub F zd_MPacker_guess_14 ?_
  obtain ⟨le5, hs4, h⟩ := zoS_s h
  obtain ⟨p6, ep6, h⟩ := zoB_s h
  refine zr_callV1 F (k_MPacker_at l D tA b sh _ ep6) zd_MPacker_guess_15 (zW_o hs4 (by decide)) rfl zs_MPacker_63 rfl zq_MPacker_at rfl rfl ⟨(Nat.le_of_ble_eq_true rfl), (Nat.le_of_ble_eq_true rfl)⟩ (Nat.le_of_ble_eq_true rfl) ⟨(Nat.le_of_ble_eq_true rfl), (Nat.le_of_ble_eq_true rfl)⟩ ?_
  refine zr_istore F zd_MPacker_guess_18 (by decide) ?_
  refine zr_aload_n F zd_MPacker_guess_20 rfl ?_
  refine zr_pcn 21 rfl ?_
  refine zr_iload_n F zd_MPacker_guess_21 rfl ?_
  refine zr_iconstv (v := 3) F zd_MPacker_guess_22 (by decide) ?_
  refine zr_isub F zd_MPacker_guess_23 ?_
  refine zr_iload_n F zd_MPacker_guess_24 rfl ?_
  refine zr_iconstv (v := 1) F zd_MPacker_guess_25 (by decide) ?_
  refine zr_isub F zd_MPacker_guess_26 ?_
  obtain ⟨le8, hs7, h⟩ := zoS_s h
  obtain ⟨p9, ep9, h⟩ := zoB_s h
  refine zr_callV1 F (k_MPacker_at l D tA b sh _ ep9) zd_MPacker_guess_27 (zW_o hs7 (by decide)) rfl zs_MPacker_63 rfl zq_MPacker_at rfl rfl ⟨(Nat.le_of_ble_eq_true rfl), (Nat.le_of_ble_eq_true rfl)⟩ (Nat.le_of_ble_eq_true rfl) ⟨(Nat.le_of_ble_eq_true rfl), (Nat.le_of_ble_eq_true rfl)⟩ ?_
  refine zr_istore F zd_MPacker_guess_30 (by decide) ?_
  refine zr_pcn 32 rfl ?_
  refine zr_iload_n F zd_MPacker_guess_32 rfl ?_
  refine zr_if_ne F 38 zd_MPacker_guess_33 (by decide) (fun hb10 => ?_) (fun hb10 => ?_)
  ·
    rw [if_neg hb10] at h
    refine zr_iload_n F zd_MPacker_guess_38 rfl ?_
    refine zr_iconstv (v := 1) F zd_MPacker_guess_39 (by decide) ?_
    refine zr_icmp_ne F 46 zd_MPacker_guess_40 (by decide) (fun hb11 => ?_) (fun hb11 => ?_)
    ·
      rw [if_neg hb11] at h
      refine zr_iload_n F zd_MPacker_guess_46 rfl ?_
      refine zr_iconstv (v := 2) F zd_MPacker_guess_47 (by decide) ?_
      refine zr_icmp_ne F 54 zd_MPacker_guess_48 (by decide) (fun hb12 => ?_) (fun hb12 => ?_)
      ·
        rw [if_neg hb12] at h
        refine zr_pcn 54 rfl ?_
        refine zr_iload_n F zd_MPacker_guess_54 rfl ?_
        refine zr_iconstv (v := 3) F zd_MPacker_guess_55 (by decide) ?_
        refine zr_icmp_ne F 67 zd_MPacker_guess_56 (by decide) (fun hb13 => ?_) (fun hb13 => ?_)
        ·
          rw [if_neg hb13] at h
          refine zr_iload F zd_MPacker_guess_67 rfl ?_
          refine zr_iload F zd_MPacker_guess_69 rfl ?_
          refine zr_iadd F zd_MPacker_guess_71 ?_
          refine zr_iload F zd_MPacker_guess_72 rfl ?_
          refine zr_isub F zd_MPacker_guess_74 ?_
          refine zr_pcn 75 rfl ?_
          obtain ⟨x14, ex14, h⟩ := zoL_s h
          rw [← ex14]
          refine zr_istore F zd_MPacker_guess_75 (by decide) ?_
          refine zr_iload F zd_MPacker_guess_77 rfl ?_
          refine zr_iload F zd_MPacker_guess_79 rfl ?_
          refine zr_isub F zd_MPacker_guess_81 ?_
          refine zr_callS1 F (c_JMath_abs l D tA b _ _ (x14 - p3.1)) zd_MPacker_guess_82 zs_MPacker_66 zq_JMath_abs rfl rfl ⟨(Nat.le_of_ble_eq_true rfl), (Nat.le_of_ble_eq_true rfl)⟩ (Nat.le_of_ble_eq_true rfl) ⟨(Nat.le_of_ble_eq_true rfl), (Nat.le_of_ble_eq_true rfl)⟩ ?_
          obtain ⟨x16, ex16, h⟩ := zoL_s h
          rw [← ex16]
          refine zr_istore F zd_MPacker_guess_85 (by decide) ?_
          refine zr_iload F zd_MPacker_guess_87 rfl ?_
          refine zr_iload F zd_MPacker_guess_89 rfl ?_
          refine zr_pcn 91 rfl ?_
          refine zr_isub F zd_MPacker_guess_91 ?_
          refine zr_callS1 F (c_JMath_abs l D tA b _ _ (x14 - p6.1)) zd_MPacker_guess_92 zs_MPacker_66 zq_JMath_abs rfl rfl ⟨(Nat.le_of_ble_eq_true rfl), (Nat.le_of_ble_eq_true rfl)⟩ (Nat.le_of_ble_eq_true rfl) ⟨(Nat.le_of_ble_eq_true rfl), (Nat.le_of_ble_eq_true rfl)⟩ ?_
          obtain ⟨x18, ex18, h⟩ := zoL_s h
          rw [← ex18]
          refine zr_istore F zd_MPacker_guess_95 (by decide) ?_
          refine zr_iload F zd_MPacker_guess_97 rfl ?_
          refine zr_iload F zd_MPacker_guess_99 rfl ?_
          refine zr_isub F zd_MPacker_guess_101 ?_
          refine zr_callS1 F (c_JMath_abs l D tA b _ _ (x14 - p9.1)) zd_MPacker_guess_102 zs_MPacker_66 zq_JMath_abs rfl rfl ⟨(Nat.le_of_ble_eq_true rfl), (Nat.le_of_ble_eq_true rfl)⟩ (Nat.le_of_ble_eq_true rfl) ⟨(Nat.le_of_ble_eq_true rfl), (Nat.le_of_ble_eq_true rfl)⟩ ?_
          obtain ⟨x20, ex20, h⟩ := zoL_s h
          rw [← ex20]
          refine zr_istore F zd_MPacker_guess_105 (by decide) ?_
          refine zr_pcn 107 rfl ?_
          refine zr_iload F zd_MPacker_guess_107 rfl ?_
          refine zr_iload F zd_MPacker_guess_109 rfl ?_
          refine zr_icmp_gt F 126 zd_MPacker_guess_111 (by decide) (fun hb21 => ?_) (fun hb21 => ?_)
          ·
            rw [if_pos hb21] at h
            refine zr_iload F zd_MPacker_guess_126 rfl ?_
            refine zr_iload F zd_MPacker_guess_128 rfl ?_
            refine zr_icmp_gt F 138 zd_MPacker_guess_130 (by decide) (fun hb22 => ?_) (fun hb22 => ?_)
            ·
              rw [if_pos hb22] at h
              refine zr_iload F zd_MPacker_guess_138 rfl ?_
              obtain rfl := Option.some.inj h
              exact zr_iret F hr zd_MPacker_guess_140 (Nat.le_of_ble_eq_true rfl) (Nat.le_of_ble_eq_true rfl) ⟨rfl, rfl, rfl⟩
            ·
              rw [if_neg hb22] at h
              refine zr_pcn 133 rfl ?_
              refine zr_iload F zd_MPacker_guess_133 rfl ?_
              refine zr_goto F 140 zd_MPacker_guess_135 (by decide) ?_
              obtain rfl := Option.some.inj h
              exact zr_iret F hr zd_MPacker_guess_140 (Nat.le_of_ble_eq_true rfl) (Nat.le_of_ble_eq_true rfl) ⟨rfl, rfl, rfl⟩
          ·
            rw [if_neg hb21] at h
            refine zr_iload F zd_MPacker_guess_114 rfl ?_
            refine zr_iload F zd_MPacker_guess_116 rfl ?_
            refine zr_icmp_gt F 126 zd_MPacker_guess_118 (by decide) (fun hb23 => ?_) (fun hb23 => ?_)
            ·
              rw [if_pos hb23] at h
              refine zr_iload F zd_MPacker_guess_126 rfl ?_
              refine zr_iload F zd_MPacker_guess_128 rfl ?_
              refine zr_pcn 130 rfl ?_
              refine zr_icmp_gt F 138 zd_MPacker_guess_130 (by decide) (fun hb24 => ?_) (fun hb24 => ?_)
              ·
                rw [if_pos hb24] at h
                refine zr_iload F zd_MPacker_guess_138 rfl ?_
                obtain rfl := Option.some.inj h
                exact zr_iret F hr zd_MPacker_guess_140 (Nat.le_of_ble_eq_true rfl) (Nat.le_of_ble_eq_true rfl) ⟨rfl, rfl, rfl⟩
              ·
                rw [if_neg hb24] at h
                refine zr_iload F zd_MPacker_guess_133 rfl ?_
                refine zr_goto F 140 zd_MPacker_guess_135 (by decide) ?_
                obtain rfl := Option.some.inj h
                exact zr_iret F hr zd_MPacker_guess_140 (Nat.le_of_ble_eq_true rfl) (Nat.le_of_ble_eq_true rfl) ⟨rfl, rfl, rfl⟩
            ·
              rw [if_neg hb23] at h
              refine zr_iload F zd_MPacker_guess_121 rfl ?_
              refine zr_goto F 140 zd_MPacker_guess_123 (by decide) ?_
              refine zr_pcn 140 rfl ?_
              obtain rfl := Option.some.inj h
              exact zr_iret F hr zd_MPacker_guess_140 (Nat.le_of_ble_eq_true rfl) (Nat.le_of_ble_eq_true rfl) ⟨rfl, rfl, rfl⟩
        ·
          rw [if_pos hb13] at h
          refine zr_iload F zd_MPacker_guess_59 rfl ?_
          refine zr_iload F zd_MPacker_guess_61 rfl ?_
          refine zr_iadd F zd_MPacker_guess_63 ?_
          refine zr_iconstv (v := 2) F zd_MPacker_guess_64 (by decide) ?_
          refine zr_idiv F zd_MPacker_guess_65 (by decide) ?_
          obtain rfl := Option.some.inj h
          exact zr_iret F hr zd_MPacker_guess_66 (Nat.le_of_ble_eq_true rfl) (Nat.le_of_ble_eq_true rfl) ⟨rfl, rfl, rfl⟩
      ·
        rw [if_pos hb12] at h
        refine zr_iload F zd_MPacker_guess_51 rfl ?_
        refine zr_pcn 53 rfl ?_
        obtain rfl := Option.some.inj h
        exact zr_iret F hr zd_MPacker_guess_53 (Nat.le_of_ble_eq_true rfl) (Nat.le_of_ble_eq_true rfl) ⟨rfl, rfl, rfl⟩
    ·
      rw [if_pos hb11] at h
      refine zr_iload F zd_MPacker_guess_43 rfl ?_
      obtain rfl := Option.some.inj h
      exact zr_iret F hr zd_MPacker_guess_45 (Nat.le_of_ble_eq_true rfl) (Nat.le_of_ble_eq_true rfl) ⟨rfl, rfl, rfl⟩
  ·
    rw [if_pos hb10] at h
    refine zr_iconstv (v := 0) F zd_MPacker_guess_36 (by decide) ?_
    obtain rfl := Option.some.inj h
    exact zr_iret F hr zd_MPacker_guess_37 (Nat.le_of_ble_eq_true rfl) (Nat.le_of_ble_eq_true rfl) ⟨rfl, rfl, rfl⟩
abbrev zb_MPacker_less : ByteArray := prog_15_method_11_code
def zy_MPacker_less : MethodName := ⟨"OrreryBoxModel$Packer", "less", "(III)I"⟩
theorem zc_MPacker_less : Cond.code zy_MPacker_less zb_MPacker_less 4 (some .int) ∈ gw := gw_t 2220 (by decide +kernel) rfl
theorem zq_MPacker_less : zy_MPacker_less.cls ≠ "java/lang/invoke/MethodHandle" ∧ zy_MPacker_less.cls ≠ "java/lang/invoke/VarHandle" ∧ (parseMethodDescriptor zy_MPacker_less.desc).map (fun d => d.parameters.length) = some 3 := by decide +kernel
theorem zd_MPacker_less_0 : decode zb_MPacker_less 0 = .ok (.aload_n 0, 1) := by decide +kernel
theorem zd_MPacker_less_1 : decode zb_MPacker_less 1 = .ok (.iload_n 2, 1) := by decide +kernel
theorem zd_MPacker_less_2 : decode zb_MPacker_less 2 = .ok (.iload_n 3, 1) := by decide +kernel
theorem zd_MPacker_less_3 : decode zb_MPacker_less 3 = .ok (.invokevirtual 63, 3) := by decide +kernel
theorem zd_MPacker_less_6 : decode zb_MPacker_less 6 = .ok (.aload_n 0, 1) := by decide +kernel
theorem zd_MPacker_less_7 : decode zb_MPacker_less 7 = .ok (.iload_n 1, 1) := by decide +kernel
theorem zd_MPacker_less_8 : decode zb_MPacker_less 8 = .ok (.iload_n 2, 1) := by decide +kernel
theorem zd_MPacker_less_9 : decode zb_MPacker_less 9 = .ok (.iload_n 3, 1) := by decide +kernel
theorem zd_MPacker_less_10 : decode zb_MPacker_less 10 = .ok (.invokevirtual 72, 3) := by decide +kernel
theorem zd_MPacker_less_13 : decode zb_MPacker_less 13 = .ok (.isub, 1) := by decide +kernel
theorem zd_MPacker_less_14 : decode zb_MPacker_less 14 = .ok (.sipush 255, 3) := by decide +kernel
theorem zd_MPacker_less_17 : decode zb_MPacker_less 17 = .ok (.iand, 1) := by decide +kernel
theorem zd_MPacker_less_18 : decode zb_MPacker_less 18 = .ok (.ireturn, 1) := by decide +kernel
theorem zw_2225 : (Jvm.Cond.methodLink "OrreryBoxModel$Packer" (72 : Nat) ({ cls := "OrreryBoxModel$Packer", name := "guess", desc := "(III)I" } : Jvm.MethodName)) ∈ gw := gw_t 2225 (by decide +kernel) rfl
theorem zw_2227 : (Jvm.Cond.instanceMethod ({ cls := "OrreryBoxModel$Packer", name := "guess", desc := "(III)I" } : Jvm.MethodName)) ∈ gw := gw_t 2227 (by decide +kernel) rfl
theorem zv_126 : (Jvm.Cond.selects "OrreryBoxModel$Packer" (⟨"OrreryBoxModel$Packer", "guess", "(III)I"⟩ : MethodName) ⟨"OrreryBoxModel$Packer", "guess", "(III)I"⟩) ∈ gw := gw_s 126 (by decide +kernel) rfl
theorem zs_MPacker_72 : zwV "OrreryBoxModel$Packer" 72 "OrreryBoxModel$Packer" zy_MPacker_guess zb_MPacker_guess 11 (some .int) := ⟨zw_2225, zw_2227, zv_126, zw_16, zc_MPacker_guess⟩
def F_MPacker_less (sh : zSh) (mm : zMem) (o : Nat) (x0_ : Int32) (x1_ : Int32) (x2_ : Int32) : Option (Int32 × zMem) := zoS (sh o) 12 (fun le2 => Option.bind (F_MPacker_at sh mm o x1_ x2_) (fun p3 => zoS (sh o) 12 (fun le5 => Option.bind (F_MPacker_guess sh (p3.2) o x0_ x1_ x2_) (fun p6 => some (((p3.1 - p6.1) &&& 255), p6.2)))))
set_option maxHeartbeats 4000000 in
set_option maxRecDepth 100000 in
theorem k_MPacker_less (l : Launch) (D : va_G) (tA : Nat → ClassId) (b : Nat) (sh : zSh) (n : Nat) {mm : zMem} {o : Nat} {x0_ : Int32} {x1_ : Int32} {x2_ : Int32} {r : (Int32 × zMem)} (h : F_MPacker_less sh mm o x0_ x1_ x2_ = some r) : zM l D tA b zy_MPacker_less zb_MPacker_less 4 (some .int) 2 52 0 0 [.ref (b + o), .int x0_, .int x1_, .int x2_] (zW tA b sh mm) n (zE (some (.int (r.1))) (zW tA b sh r.2) n) := by
  unfold F_MPacker_less at h
  refine zM_of (own := "OrreryBoxModel$Packer") (plainFor_of_name (by decide)) rfl (Nat.le_of_ble_eq_true rfl) (fun p e s m below meth c F hr hin hH => ?_)
  refine zr_aload_n F zd_MPacker_less_0 rfl ?_
  refine zr_iload_n F zd_MPacker_less_1 rfl ?_
  refine zr_iload_n F zd_MPacker_less_2 rfl ?_
  obtain ⟨le2, hs1, h⟩ := zoS_s h
  obtain ⟨p3, ep3, h⟩ := zoB_s h
  refine zr_callV1 F (k_MPacker_at l D tA b sh _ ep3) zd_MPacker_less_3 (zW_o hs1 (by decide)) rfl zs_MPacker_63 rfl zq_MPacker_at rfl rfl ⟨(Nat.le_of_ble_eq_true rfl), (Nat.le_of_ble_eq_true rfl)⟩ (Nat.le_of_ble_eq_true rfl) ⟨(Nat.le_of_ble_eq_true rfl), (Nat.le_of_ble_eq_true rfl)⟩ ?_
  refine zr_aload_n F zd_MPacker_less_6 rfl ?_
  refine zr_iload_n F zd_MPacker_less_7 rfl ?_
  refine zr_iload_n F zd_MPacker_less_8 rfl ?_
  refine zr_pcn 9 rfl ?_
  refine zr_iload_n F zd_MPacker_less_9 rfl ?_
  obtain ⟨le5, hs4, h⟩ := zoS_s h
  obtain ⟨p6, ep6, h⟩ := zoB_s h
  refine zr_callV1 F (k_MPacker_guess l D tA b sh _ ep6) zd_MPacker_less_10 (zW_o hs4 (by decide)) rfl zs_MPacker_72 rfl zq_MPacker_guess rfl rfl ⟨(Nat.le_of_ble_eq_true rfl), (Nat.le_of_ble_eq_true rfl)⟩ (Nat.le_of_ble_eq_true rfl) ⟨(Nat.le_of_ble_eq_true rfl), (Nat.le_of_ble_eq_true rfl)⟩ ?_
  refine zr_isub F zd_MPacker_less_13 ?_
  refine zr_sipushv (v := 255) F zd_MPacker_less_14 (by decide) ?_
  refine zr_iand F zd_MPacker_less_17 ?_
  obtain rfl := Option.some.inj h
  exact zr_iret F hr zd_MPacker_less_18 (Nat.le_of_ble_eq_true rfl) (Nat.le_of_ble_eq_true rfl) ⟨rfl, rfl, rfl⟩
abbrev zb_MPacker_row : ByteArray := prog_15_method_12_code
def zy_MPacker_row : MethodName := ⟨"OrreryBoxModel$Packer", "row", "(I)V"⟩
theorem zc_MPacker_row : Cond.code zy_MPacker_row zb_MPacker_row 7 none ∈ gw := gw_t 2216 (by decide +kernel) rfl
theorem zq_MPacker_row : zy_MPacker_row.cls ≠ "java/lang/invoke/MethodHandle" ∧ zy_MPacker_row.cls ≠ "java/lang/invoke/VarHandle" ∧ (parseMethodDescriptor zy_MPacker_row.desc).map (fun d => d.parameters.length) = some 1 := by decide +kernel
theorem zd_MPacker_row_0 : decode zb_MPacker_row 0 = .ok (.iconst 0, 1) := by decide +kernel
theorem zd_MPacker_row_1 : decode zb_MPacker_row 1 = .ok (.istore_n 2, 1) := by decide +kernel
theorem zd_MPacker_row_2 : decode zb_MPacker_row 2 = .ok (.iconst 0, 1) := by decide +kernel
theorem zd_MPacker_row_3 : decode zb_MPacker_row 3 = .ok (.istore_n 3, 1) := by decide +kernel
theorem zd_MPacker_row_4 : decode zb_MPacker_row 4 = .ok (.iconst 0, 1) := by decide +kernel
theorem zd_MPacker_row_5 : decode zb_MPacker_row 5 = .ok (.istore 4, 2) := by decide +kernel
theorem zd_MPacker_row_7 : decode zb_MPacker_row 7 = .ok (.iload 4, 2) := by decide +kernel
theorem zd_MPacker_row_9 : decode zb_MPacker_row 9 = .ok (.iconst 5, 1) := by decide +kernel
theorem zd_MPacker_row_10 : decode zb_MPacker_row 10 = .ok (.if_icmp .ge 79, 3) := by decide +kernel
theorem zd_MPacker_row_13 : decode zb_MPacker_row 13 = .ok (.iconst 0, 1) := by decide +kernel
theorem zd_MPacker_row_14 : decode zb_MPacker_row 14 = .ok (.istore 5, 2) := by decide +kernel
theorem zd_MPacker_row_16 : decode zb_MPacker_row 16 = .ok (.iconst 0, 1) := by decide +kernel
theorem zd_MPacker_row_17 : decode zb_MPacker_row 17 = .ok (.istore 6, 2) := by decide +kernel
theorem zd_MPacker_row_19 : decode zb_MPacker_row 19 = .ok (.iload 6, 2) := by decide +kernel
theorem zd_MPacker_row_21 : decode zb_MPacker_row 21 = .ok (.iconst 3, 1) := by decide +kernel
theorem zd_MPacker_row_22 : decode zb_MPacker_row 22 = .ok (.aload_n 0, 1) := by decide +kernel
theorem zd_MPacker_row_23 : decode zb_MPacker_row 23 = .ok (.getfield 33, 3) := by decide +kernel
theorem zd_MPacker_row_26 : decode zb_MPacker_row 26 = .ok (.imul, 1) := by decide +kernel
theorem zd_MPacker_row_27 : decode zb_MPacker_row 27 = .ok (.if_icmp .ge 39, 3) := by decide +kernel
theorem zd_MPacker_row_30 : decode zb_MPacker_row 30 = .ok (.iload 5, 2) := by decide +kernel
theorem zd_MPacker_row_32 : decode zb_MPacker_row 32 = .ok (.aload_n 0, 1) := by decide +kernel
theorem zd_MPacker_row_33 : decode zb_MPacker_row 33 = .ok (.iload 4, 2) := by decide +kernel
theorem zd_MPacker_row_35 : decode zb_MPacker_row 35 = .ok (.iload 6, 2) := by decide +kernel
theorem zd_MPacker_row_37 : decode zb_MPacker_row 37 = .ok (.iload_n 1, 1) := by decide +kernel
theorem zd_MPacker_row_38 : decode zb_MPacker_row 38 = .ok (.invokevirtual 76, 3) := by decide +kernel
theorem zd_MPacker_row_41 : decode zb_MPacker_row 41 = .ok (.sipush 256, 3) := by decide +kernel
theorem zd_MPacker_row_44 : decode zb_MPacker_row 44 = .ok (.aload_n 0, 1) := by decide +kernel
theorem zd_MPacker_row_45 : decode zb_MPacker_row 45 = .ok (.iload 4, 2) := by decide +kernel
theorem zd_MPacker_row_47 : decode zb_MPacker_row 47 = .ok (.iload 6, 2) := by decide +kernel
theorem zd_MPacker_row_49 : decode zb_MPacker_row 49 = .ok (.iload_n 1, 1) := by decide +kernel
theorem zd_MPacker_row_50 : decode zb_MPacker_row 50 = .ok (.invokevirtual 76, 3) := by decide +kernel
theorem zd_MPacker_row_53 : decode zb_MPacker_row 53 = .ok (.isub, 1) := by decide +kernel
theorem zd_MPacker_row_54 : decode zb_MPacker_row 54 = .ok (.invokestatic 79, 3) := by decide +kernel
theorem zd_MPacker_row_57 : decode zb_MPacker_row 57 = .ok (.iadd, 1) := by decide +kernel
theorem zd_MPacker_row_58 : decode zb_MPacker_row 58 = .ok (.istore 5, 2) := by decide +kernel
theorem zd_MPacker_row_60 : decode zb_MPacker_row 60 = .ok (.iinc 6 1, 3) := by decide +kernel
theorem zd_MPacker_row_63 : decode zb_MPacker_row 63 = .ok (.goto (-44), 3) := by decide +kernel
theorem zd_MPacker_row_66 : decode zb_MPacker_row 66 = .ok (.iload 4, 2) := by decide +kernel
theorem zd_MPacker_row_68 : decode zb_MPacker_row 68 = .ok (.ifCond .eq 9, 3) := by decide +kernel
theorem zd_MPacker_row_71 : decode zb_MPacker_row 71 = .ok (.iload 5, 2) := by decide +kernel
theorem zd_MPacker_row_73 : decode zb_MPacker_row 73 = .ok (.iload_n 3, 1) := by decide +kernel
theorem zd_MPacker_row_74 : decode zb_MPacker_row 74 = .ok (.if_icmp .ge 9, 3) := by decide +kernel
theorem zd_MPacker_row_77 : decode zb_MPacker_row 77 = .ok (.iload 5, 2) := by decide +kernel
theorem zd_MPacker_row_79 : decode zb_MPacker_row 79 = .ok (.istore_n 3, 1) := by decide +kernel
theorem zd_MPacker_row_80 : decode zb_MPacker_row 80 = .ok (.iload 4, 2) := by decide +kernel
theorem zd_MPacker_row_82 : decode zb_MPacker_row 82 = .ok (.istore_n 2, 1) := by decide +kernel
theorem zd_MPacker_row_83 : decode zb_MPacker_row 83 = .ok (.iinc 4 1, 3) := by decide +kernel
theorem zd_MPacker_row_86 : decode zb_MPacker_row 86 = .ok (.goto (-79), 3) := by decide +kernel
theorem zd_MPacker_row_89 : decode zb_MPacker_row 89 = .ok (.aload_n 0, 1) := by decide +kernel
theorem zd_MPacker_row_90 : decode zb_MPacker_row 90 = .ok (.getfield 7, 3) := by decide +kernel
theorem zd_MPacker_row_93 : decode zb_MPacker_row 93 = .ok (.aload_n 0, 1) := by decide +kernel
theorem zd_MPacker_row_94 : decode zb_MPacker_row 94 = .ok (.getfield 48, 3) := by decide +kernel
theorem zd_MPacker_row_97 : decode zb_MPacker_row 97 = .ok (.iload_n 2, 1) := by decide +kernel
theorem zd_MPacker_row_98 : decode zb_MPacker_row 98 = .ok (.iastore, 1) := by decide +kernel
theorem zd_MPacker_row_99 : decode zb_MPacker_row 99 = .ok (.aload_n 0, 1) := by decide +kernel
theorem zd_MPacker_row_100 : decode zb_MPacker_row 100 = .ok (.dup, 1) := by decide +kernel
theorem zd_MPacker_row_101 : decode zb_MPacker_row 101 = .ok (.getfield 48, 3) := by decide +kernel
theorem zd_MPacker_row_104 : decode zb_MPacker_row 104 = .ok (.iconst 1, 1) := by decide +kernel
theorem zd_MPacker_row_105 : decode zb_MPacker_row 105 = .ok (.iadd, 1) := by decide +kernel
theorem zd_MPacker_row_106 : decode zb_MPacker_row 106 = .ok (.putfield 48, 3) := by decide +kernel
theorem zd_MPacker_row_109 : decode zb_MPacker_row 109 = .ok (.iconst 0, 1) := by decide +kernel
theorem zd_MPacker_row_110 : decode zb_MPacker_row 110 = .ok (.istore 4, 2) := by decide +kernel
theorem zd_MPacker_row_112 : decode zb_MPacker_row 112 = .ok (.iload 4, 2) := by decide +kernel
theorem zd_MPacker_row_114 : decode zb_MPacker_row 114 = .ok (.iconst 3, 1) := by decide +kernel
theorem zd_MPacker_row_115 : decode zb_MPacker_row 115 = .ok (.aload_n 0, 1) := by decide +kernel
theorem zd_MPacker_row_116 : decode zb_MPacker_row 116 = .ok (.getfield 33, 3) := by decide +kernel
theorem zd_MPacker_row_119 : decode zb_MPacker_row 119 = .ok (.imul, 1) := by decide +kernel
theorem zd_MPacker_row_120 : decode zb_MPacker_row 120 = .ok (.if_icmp .ge 36, 3) := by decide +kernel
theorem zd_MPacker_row_123 : decode zb_MPacker_row 123 = .ok (.aload_n 0, 1) := by decide +kernel
theorem zd_MPacker_row_124 : decode zb_MPacker_row 124 = .ok (.getfield 7, 3) := by decide +kernel
theorem zd_MPacker_row_127 : decode zb_MPacker_row 127 = .ok (.aload_n 0, 1) := by decide +kernel
theorem zd_MPacker_row_128 : decode zb_MPacker_row 128 = .ok (.getfield 48, 3) := by decide +kernel
theorem zd_MPacker_row_131 : decode zb_MPacker_row 131 = .ok (.aload_n 0, 1) := by decide +kernel
theorem zd_MPacker_row_132 : decode zb_MPacker_row 132 = .ok (.iload_n 2, 1) := by decide +kernel
theorem zd_MPacker_row_133 : decode zb_MPacker_row 133 = .ok (.iload 4, 2) := by decide +kernel
theorem zd_MPacker_row_135 : decode zb_MPacker_row 135 = .ok (.iload_n 1, 1) := by decide +kernel
theorem zd_MPacker_row_136 : decode zb_MPacker_row 136 = .ok (.invokevirtual 76, 3) := by decide +kernel
theorem zd_MPacker_row_139 : decode zb_MPacker_row 139 = .ok (.iastore, 1) := by decide +kernel
theorem zd_MPacker_row_140 : decode zb_MPacker_row 140 = .ok (.aload_n 0, 1) := by decide +kernel
theorem zd_MPacker_row_141 : decode zb_MPacker_row 141 = .ok (.dup, 1) := by decide +kernel
theorem zd_MPacker_row_142 : decode zb_MPacker_row 142 = .ok (.getfield 48, 3) := by decide +kernel
theorem zd_MPacker_row_145 : decode zb_MPacker_row 145 = .ok (.iconst 1, 1) := by decide +kernel
theorem zd_MPacker_row_146 : decode zb_MPacker_row 146 = .ok (.iadd, 1) := by decide +kernel
theorem zd_MPacker_row_147 : decode zb_MPacker_row 147 = .ok (.putfield 48, 3) := by decide +kernel
theorem zd_MPacker_row_150 : decode zb_MPacker_row 150 = .ok (.iinc 4 1, 3) := by decide +kernel
theorem zd_MPacker_row_153 : decode zb_MPacker_row 153 = .ok (.goto (-41), 3) := by decide +kernel
theorem zd_MPacker_row_156 : decode zb_MPacker_row 156 = .ok (.return_, 1) := by decide +kernel
theorem zw_2217 : (Jvm.Cond.methodLink "OrreryBoxModel$Packer" (76 : Nat) ({ cls := "OrreryBoxModel$Packer", name := "less", desc := "(III)I" } : Jvm.MethodName)) ∈ gw := gw_t 2217 (by decide +kernel) rfl
theorem zw_2219 : (Jvm.Cond.instanceMethod ({ cls := "OrreryBoxModel$Packer", name := "less", desc := "(III)I" } : Jvm.MethodName)) ∈ gw := gw_t 2219 (by decide +kernel) rfl
theorem zv_124 : (Jvm.Cond.selects "OrreryBoxModel$Packer" (⟨"OrreryBoxModel$Packer", "less", "(III)I"⟩ : MethodName) ⟨"OrreryBoxModel$Packer", "less", "(III)I"⟩) ∈ gw := gw_s 124 (by decide +kernel) rfl
theorem zs_MPacker_76 : zwV "OrreryBoxModel$Packer" 76 "OrreryBoxModel$Packer" zy_MPacker_less zb_MPacker_less 4 (some .int) := ⟨zw_2217, zw_2219, zv_124, zw_16, zc_MPacker_less⟩
theorem zw_2230 : (Jvm.Cond.methodLink "OrreryBoxModel$Packer" (79 : Nat) ({ cls := "java/lang/Math", name := "min", desc := "(II)I" } : Jvm.MethodName)) ∈ gw := gw_t 2230 (by decide +kernel) rfl
theorem zs_MPacker_79 : zwS "OrreryBoxModel$Packer" 79 zy_JMath_min zb_JMath_min 2 (some .int) := ⟨zw_2230, zw_121, zw_4, zc_JMath_min⟩
def L_MPacker_row_19 (sh : zSh) (fuel : Nat) (v0 : Nat) (v1 : Int32) (v2 : Int32) (v3 : Int32) (v4 : Int32) (v5 : Int32) (v6 : Int32) (mm : zMem) : Option (Nat × Int32 × Int32 × Int32 × Int32 × Int32 × Int32 × zMem) := match fuel with
  | 0 => none
  | fu + 1 => zoS (sh v0) 12 (fun le3 => (if (3 * (mm.1 v0 5)) ≤ v6 then some (v0, v1, v2, v3, v4, v5, v6, mm) else zoS (sh v0) 12 (fun le6 => Option.bind (F_MPacker_less sh mm v0 v4 v6 v1) (fun p7 => zoS (sh v0) 12 (fun le9 => Option.bind (F_MPacker_less sh (p7.2) v0 v4 v6 v1) (fun p10 => zoL (v5 + (zx_min (p7.1) (256 - p10.1))) (fun x12 => L_MPacker_row_19 sh fu v0 v1 v2 v3 v4 x12 (v6 + 1) (p10.2))))))))
set_option maxHeartbeats 4000000 in
set_option maxRecDepth 100000 in
theorem lp_MPacker_row_19 {p : Program} {l : Launch} {e : Env} {s : State} {m : MethodId} {args : Array Value} {below : List Frame} {meth : Method} {c : Code} {D : va_G} {tA : Nat → ClassId} {b n : Nat} {post : Option Value → zV → Nat → Prop} {sh : zSh} (F : zF p s m args meth c zb_MPacker_row 7 "OrreryBoxModel$Packer" D tA b) : ∀ (fuel : Nat) (v0 : Nat) (v1 : Int32) (v2 : Int32) (v3 : Int32) (v4 : Int32) (v5 : Int32) (v6 : Int32) (mm : zMem) (r : Nat × Int32 × Int32 × Int32 × Int32 × Int32 × Int32 × zMem), L_MPacker_row_19 sh fuel v0 v1 v2 v3 v4 v5 v6 mm = some r → (Z p l e { frames := 3, cells := 0, slots := 0, locals := 75 } s m args below meth c D b 7 (MQ below (zQ D b post) args s 0 0 (fun q => b ≤ q)) (zW tA b sh r.2.2.2.2.2.2.2) n 0 0 66 [(0, .ref (b + (r.1))), (1, .int (r.2.1)), (2, .int (r.2.2.1)), (3, .int (r.2.2.2.1)), (4, .int (r.2.2.2.2.1)), (5, .int (r.2.2.2.2.2.1)), (6, .int (r.2.2.2.2.2.2.1))] []) → Z p l e { frames := 3, cells := 0, slots := 0, locals := 75 } s m args below meth c D b 7 (MQ below (zQ D b post) args s 0 0 (fun q => b ≤ q)) (zW tA b sh mm) n 0 0 19 [(0, .ref (b + v0)), (1, .int v1), (2, .int v2), (3, .int v3), (4, .int v4), (5, .int v5), (6, .int v6)] [] := by
  intro fuel
  induction fuel with
  | zero =>
    intro v0 v1 v2 v3 v4 v5 v6 mm r h
    cases h
  | succ fu ih =>
    intro v0 v1 v2 v3 v4 v5 v6 mm r h hx0
    rw [L_MPacker_row_19] at h
    refine zr_iload F zd_MPacker_row_19 rfl ?_
    refine zr_iconstv (v := 3) F zd_MPacker_row_21 (by decide) ?_
    refine zr_pcn 22 rfl ?_
    refine zr_aload_n F zd_MPacker_row_22 rfl ?_
    obtain ⟨le3, hs2, h⟩ := zoS_s h
    refine zr_get F 12 5 zd_MPacker_row_23 (zW_o hs2 (by decide)) rfl (by decide) zw_1553 rfl (by rfl) ?_
    refine zr_imul F zd_MPacker_row_26 ?_
    refine zr_icmp_ge F 66 zd_MPacker_row_27 (by decide) (fun hb4 => ?_) (fun hb4 => ?_)
    ·
      rw [if_pos hb4] at h
      obtain rfl := Option.some.inj h
      refine zr_loc (L' := [(0, .ref (b + v0)), (1, .int v1), (2, .int v2), (3, .int v3), (4, .int v4), (5, .int v5), (6, .int v6)]) ⟨rfl, rfl, rfl, rfl, rfl, rfl, rfl, trivial⟩ ?_
      exact hx0 
    ·
      rw [if_neg hb4] at h
      refine zr_iload F zd_MPacker_row_30 rfl ?_
      refine zr_aload_n F zd_MPacker_row_32 rfl ?_
      refine zr_iload F zd_MPacker_row_33 rfl ?_
      refine zr_iload F zd_MPacker_row_35 rfl ?_
      refine zr_pcn 37 rfl ?_
      refine zr_iload_n F zd_MPacker_row_37 rfl ?_
      obtain ⟨le6, hs5, h⟩ := zoS_s h
      obtain ⟨p7, ep7, h⟩ := zoB_s h
      refine zr_callV1 F (k_MPacker_less l D tA b sh _ ep7) zd_MPacker_row_38 (zW_o hs5 (by decide)) rfl zs_MPacker_76 rfl zq_MPacker_less rfl rfl ⟨(Nat.le_of_ble_eq_true rfl), (Nat.le_of_ble_eq_true rfl)⟩ (Nat.le_of_ble_eq_true rfl) ⟨(Nat.le_of_ble_eq_true rfl), (Nat.le_of_ble_eq_true rfl)⟩ ?_
      refine zr_sipushv (v := 256) F zd_MPacker_row_41 (by decide) ?_
      refine zr_aload_n F zd_MPacker_row_44 rfl ?_
      refine zr_iload F zd_MPacker_row_45 rfl ?_
      refine zr_iload F zd_MPacker_row_47 rfl ?_
      refine zr_iload_n F zd_MPacker_row_49 rfl ?_
      obtain ⟨le9, hs8, h⟩ := zoS_s h
      obtain ⟨p10, ep10, h⟩ := zoB_s h
      refine zr_callV1 F (k_MPacker_less l D tA b sh _ ep10) zd_MPacker_row_50 (zW_o hs8 (by decide)) rfl zs_MPacker_76 rfl zq_MPacker_less rfl rfl ⟨(Nat.le_of_ble_eq_true rfl), (Nat.le_of_ble_eq_true rfl)⟩ (Nat.le_of_ble_eq_true rfl) ⟨(Nat.le_of_ble_eq_true rfl), (Nat.le_of_ble_eq_true rfl)⟩ ?_
      refine zr_pcn 53 rfl ?_
      refine zr_isub F zd_MPacker_row_53 ?_
      refine zr_callS1 F (c_JMath_min l D tA b _ _ (p7.1) (256 - p10.1)) zd_MPacker_row_54 zs_MPacker_79 zq_JMath_min rfl rfl ⟨(Nat.le_of_ble_eq_true rfl), (Nat.le_of_ble_eq_true rfl)⟩ (Nat.le_of_ble_eq_true rfl) ⟨(Nat.le_of_ble_eq_true rfl), (Nat.le_of_ble_eq_true rfl)⟩ ?_
      refine zr_iadd F zd_MPacker_row_57 ?_
      obtain ⟨x12, ex12, h⟩ := zoL_s h
      rw [← ex12]
      refine zr_istore F zd_MPacker_row_58 (by decide) ?_
      refine zr_iinc (v := (v6 + 1)) F zd_MPacker_row_60 rfl rfl (by decide) ?_
      refine zr_goto F 19 zd_MPacker_row_63 (by decide) ?_
      refine zr_loc (L' := [(0, .ref (b + v0)), (1, .int v1), (2, .int v2), (3, .int v3), (4, .int v4), (5, .int x12), (6, .int (v6 + 1))]) ⟨rfl, rfl, rfl, rfl, rfl, rfl, rfl, trivial⟩ ?_
      exact ih _ _ _ _ _ _ _ _ _ h hx0
def L_MPacker_row_7 (sh : zSh) (fuel : Nat) (v0 : Nat) (v1 : Int32) (v2 : Int32) (v3 : Int32) (v4 : Int32) (mm : zMem) : Option (Nat × Int32 × Int32 × Int32 × Int32 × zMem) := match fuel with
  | 0 => none
  | fu + 1 => (if 5 ≤ v4 then some (v0, v1, v2, v3, v4, mm) else Option.bind (L_MPacker_row_19 sh zfuel v0 v1 v2 v3 v4 0 0 mm) (fun q13 => (if q13.2.2.2.2.1 = 0 then L_MPacker_row_7 sh fu (q13.1) (q13.2.1) (q13.2.2.2.2.1) (q13.2.2.2.2.2.1) (q13.2.2.2.2.1 + 1) (q13.2.2.2.2.2.2.2) else (if q13.2.2.2.1 ≤ q13.2.2.2.2.2.1 then L_MPacker_row_7 sh fu (q13.1) (q13.2.1) (q13.2.2.1) (q13.2.2.2.1) (q13.2.2.2.2.1 + 1) (q13.2.2.2.2.2.2.2) else L_MPacker_row_7 sh fu (q13.1) (q13.2.1) (q13.2.2.2.2.1) (q13.2.2.2.2.2.1) (q13.2.2.2.2.1 + 1) (q13.2.2.2.2.2.2.2)))))
set_option maxHeartbeats 4000000 in
set_option maxRecDepth 100000 in
theorem lp_MPacker_row_7 {p : Program} {l : Launch} {e : Env} {s : State} {m : MethodId} {args : Array Value} {below : List Frame} {meth : Method} {c : Code} {D : va_G} {tA : Nat → ClassId} {b n : Nat} {post : Option Value → zV → Nat → Prop} {sh : zSh} (F : zF p s m args meth c zb_MPacker_row 7 "OrreryBoxModel$Packer" D tA b) : ∀ (fuel : Nat) (v0 : Nat) (v1 : Int32) (v2 : Int32) (v3 : Int32) (v4 : Int32) (mm : zMem) (r : Nat × Int32 × Int32 × Int32 × Int32 × zMem), L_MPacker_row_7 sh fuel v0 v1 v2 v3 v4 mm = some r → (Z p l e { frames := 3, cells := 0, slots := 0, locals := 75 } s m args below meth c D b 7 (MQ below (zQ D b post) args s 0 0 (fun q => b ≤ q)) (zW tA b sh r.2.2.2.2.2) n 0 0 89 [(0, .ref (b + (r.1))), (1, .int (r.2.1)), (2, .int (r.2.2.1)), (3, .int (r.2.2.2.1)), (4, .int (r.2.2.2.2.1))] []) → Z p l e { frames := 3, cells := 0, slots := 0, locals := 75 } s m args below meth c D b 7 (MQ below (zQ D b post) args s 0 0 (fun q => b ≤ q)) (zW tA b sh mm) n 0 0 7 [(0, .ref (b + v0)), (1, .int v1), (2, .int v2), (3, .int v3), (4, .int v4)] [] := by
  intro fuel
  induction fuel with
  | zero =>
    intro v0 v1 v2 v3 v4 mm r h
    cases h
  | succ fu ih =>
    intro v0 v1 v2 v3 v4 mm r h hx0
    rw [L_MPacker_row_7] at h
    refine zr_iload F zd_MPacker_row_7 rfl ?_
    refine zr_pcn 9 rfl ?_
    refine zr_iconstv (v := 5) F zd_MPacker_row_9 (by decide) ?_
    refine zr_icmp_ge F 89 zd_MPacker_row_10 (by decide) (fun hb1 => ?_) (fun hb1 => ?_)
    ·
      rw [if_pos hb1] at h
      obtain rfl := Option.some.inj h
      refine zr_loc (L' := [(0, .ref (b + v0)), (1, .int v1), (2, .int v2), (3, .int v3), (4, .int v4)]) ⟨rfl, rfl, rfl, rfl, rfl, trivial⟩ ?_
      exact hx0 
    ·
      rw [if_neg hb1] at h
      refine zr_iconstv (v := 0) F zd_MPacker_row_13 (by decide) ?_
      refine zr_istore F zd_MPacker_row_14 (by decide) ?_
      refine zr_iconstv (v := 0) F zd_MPacker_row_16 (by decide) ?_
      refine zr_istore F zd_MPacker_row_17 (by decide) ?_
      obtain ⟨q13, eq13, h⟩ := zoB_s h
      refine zr_loc (L' := [(0, .ref (b + v0)), (1, .int v1), (2, .int v2), (3, .int v3), (4, .int v4), (5, .int 0), (6, .int 0)]) ⟨rfl, rfl, rfl, rfl, rfl, rfl, rfl, trivial⟩ ?_
      refine lp_MPacker_row_19 F _ _ _ _ _ _ _ _ _ _ eq13 ?_
      ·
        refine zr_iload F zd_MPacker_row_66 rfl ?_
        refine zr_if_eq F 77 zd_MPacker_row_68 (by decide) (fun hb14 => ?_) (fun hb14 => ?_)
        ·
          rw [if_pos hb14] at h
          refine zr_pcn 77 rfl ?_
          refine zr_iload F zd_MPacker_row_77 rfl ?_
          refine zr_istore_n F zd_MPacker_row_79 (by decide) ?_
          refine zr_iload F zd_MPacker_row_80 rfl ?_
          refine zr_istore_n F zd_MPacker_row_82 (by decide) ?_
          refine zr_iinc (v := (q13.2.2.2.2.1 + 1)) F zd_MPacker_row_83 rfl rfl (by decide) ?_
          refine zr_goto F 7 zd_MPacker_row_86 (by decide) ?_
          refine zr_loc (L' := [(0, .ref (b + (q13.1))), (1, .int (q13.2.1)), (2, .int (q13.2.2.2.2.1)), (3, .int (q13.2.2.2.2.2.1)), (4, .int (q13.2.2.2.2.1 + 1))]) ⟨rfl, rfl, rfl, rfl, rfl, trivial⟩ ?_
          exact ih _ _ _ _ _ _ _ h hx0
        ·
          rw [if_neg hb14] at h
          refine zr_iload F zd_MPacker_row_71 rfl ?_
          refine zr_iload_n F zd_MPacker_row_73 rfl ?_
          refine zr_pcn 74 rfl ?_
          refine zr_icmp_ge F 83 zd_MPacker_row_74 (by decide) (fun hb15 => ?_) (fun hb15 => ?_)
          ·
            rw [if_pos hb15] at h
            refine zr_iinc (v := (q13.2.2.2.2.1 + 1)) F zd_MPacker_row_83 rfl rfl (by decide) ?_
            refine zr_goto F 7 zd_MPacker_row_86 (by decide) ?_
            refine zr_loc (L' := [(0, .ref (b + (q13.1))), (1, .int (q13.2.1)), (2, .int (q13.2.2.1)), (3, .int (q13.2.2.2.1)), (4, .int (q13.2.2.2.2.1 + 1))]) ⟨rfl, rfl, rfl, rfl, rfl, trivial⟩ ?_
            exact ih _ _ _ _ _ _ _ h hx0
          ·
            rw [if_neg hb15] at h
            refine zr_iload F zd_MPacker_row_77 rfl ?_
            refine zr_istore_n F zd_MPacker_row_79 (by decide) ?_
            refine zr_iload F zd_MPacker_row_80 rfl ?_
            refine zr_istore_n F zd_MPacker_row_82 (by decide) ?_
            refine zr_iinc (v := (q13.2.2.2.2.1 + 1)) F zd_MPacker_row_83 rfl rfl (by decide) ?_
            refine zr_pcn 86 rfl ?_
            refine zr_goto F 7 zd_MPacker_row_86 (by decide) ?_
            refine zr_loc (L' := [(0, .ref (b + (q13.1))), (1, .int (q13.2.1)), (2, .int (q13.2.2.2.2.1)), (3, .int (q13.2.2.2.2.2.1)), (4, .int (q13.2.2.2.2.1 + 1))]) ⟨rfl, rfl, rfl, rfl, rfl, trivial⟩ ?_
            exact ih _ _ _ _ _ _ _ h hx0
theorem zf_I_12_1 (b : Nat) (m : zMem) (k : Nat) (v : Int32) : (zfl b 12 m k).set 1 (.int v) = zfl b 12 (mI m k 1 v) k := by simp [zfl, mI, upd, vp_updL]
def L_MPacker_row_112 (sh : zSh) (fuel : Nat) (v0 : Nat) (v1 : Int32) (v2 : Int32) (v4 : Int32) (mm : zMem) : Option (Nat × Int32 × Int32 × Int32 × zMem) := match fuel with
  | 0 => none
  | fu + 1 => zoS (sh v0) 12 (fun le34 => (if (3 * (mm.1 v0 5)) ≤ v4 then some (v0, v1, v2, v4, mm) else zoS (sh v0) 12 (fun le37 => Option.bind (mm.2.2 v0 0) (fun a38 => zoS (sh v0) 12 (fun le40 => zoS (sh v0) 12 (fun le42 => Option.bind (F_MPacker_less sh mm v0 v2 v4 v1) (fun p43 => zoL (mm.1 v0 1) (fun i44 => zoS (sh a38) 100 (fun le46 => if (i44 : Int32) < 0 ∨ le46 ≤ (i44 : Int32).toNatClampNeg then none else zoL (mI (p43.2) a38 (i44 : Int32).toNatClampNeg (p43.1)) (fun mm48 => zoS (sh v0) 12 (fun le50 => zoL ((mm48.1 v0 1) + 1) (fun x51 => zoS (sh v0) 12 (fun le53 => zoL (mI mm48 v0 1 x51) (fun mm54 => L_MPacker_row_112 sh fu v0 v1 v2 (v4 + 1) mm54))))))))))))))
set_option maxHeartbeats 4000000 in
set_option maxRecDepth 100000 in
theorem lp_MPacker_row_112 {p : Program} {l : Launch} {e : Env} {s : State} {m : MethodId} {args : Array Value} {below : List Frame} {meth : Method} {c : Code} {D : va_G} {tA : Nat → ClassId} {b n : Nat} {post : Option Value → zV → Nat → Prop} {sh : zSh} (F : zF p s m args meth c zb_MPacker_row 7 "OrreryBoxModel$Packer" D tA b) : ∀ (fuel : Nat) (v0 : Nat) (v1 : Int32) (v2 : Int32) (v4 : Int32) (mm : zMem) (r : Nat × Int32 × Int32 × Int32 × zMem), L_MPacker_row_112 sh fuel v0 v1 v2 v4 mm = some r → (Z p l e { frames := 3, cells := 0, slots := 0, locals := 75 } s m args below meth c D b 7 (MQ below (zQ D b post) args s 0 0 (fun q => b ≤ q)) (zW tA b sh r.2.2.2.2) n 0 0 156 [(0, .ref (b + (r.1))), (1, .int (r.2.1)), (2, .int (r.2.2.1)), (4, .int (r.2.2.2.1))] []) → Z p l e { frames := 3, cells := 0, slots := 0, locals := 75 } s m args below meth c D b 7 (MQ below (zQ D b post) args s 0 0 (fun q => b ≤ q)) (zW tA b sh mm) n 0 0 112 [(0, .ref (b + v0)), (1, .int v1), (2, .int v2), (4, .int v4)] [] := by
  intro fuel
  induction fuel with
  | zero =>
    intro v0 v1 v2 v4 mm r h
    cases h
  | succ fu ih =>
    intro v0 v1 v2 v4 mm r h hx0
    rw [L_MPacker_row_112] at h
    refine zr_iload F zd_MPacker_row_112 rfl ?_
    refine zr_pcn 114 rfl ?_
    refine zr_iconstv (v := 3) F zd_MPacker_row_114 (by decide) ?_
    refine zr_aload_n F zd_MPacker_row_115 rfl ?_
    obtain ⟨le34, hs33, h⟩ := zoS_s h
    refine zr_get F 12 5 zd_MPacker_row_116 (zW_o hs33 (by decide)) rfl (by decide) zw_1553 rfl (by rfl) ?_
    refine zr_imul F zd_MPacker_row_119 ?_
    refine zr_icmp_ge F 156 zd_MPacker_row_120 (by decide) (fun hb35 => ?_) (fun hb35 => ?_)
    ·
      rw [if_pos hb35] at h
      obtain rfl := Option.some.inj h
      refine zr_loc (L' := [(0, .ref (b + v0)), (1, .int v1), (2, .int v2), (4, .int v4)]) ⟨rfl, rfl, rfl, rfl, trivial⟩ ?_
      exact hx0 
    ·
      rw [if_neg hb35] at h
      refine zr_aload_n F zd_MPacker_row_123 rfl ?_
      obtain ⟨le37, hs36, h⟩ := zoS_s h
      obtain ⟨a38, ea38, h⟩ := zoB_s h
      refine zr_get F 12 0 zd_MPacker_row_124 (zW_o hs36 (by decide)) rfl (by decide) zw_1546 rfl (by rfl) ?_
      refine zr_tor ea38 ?_
      refine zr_aload_n F zd_MPacker_row_127 rfl ?_
      refine zr_pcn 128 rfl ?_
      obtain ⟨le40, hs39, h⟩ := zoS_s h
      refine zr_get F 12 1 zd_MPacker_row_128 (zW_o hs39 (by decide)) rfl (by decide) zw_1547 rfl (by rfl) ?_
      refine zr_aload_n F zd_MPacker_row_131 rfl ?_
      refine zr_iload_n F zd_MPacker_row_132 rfl ?_
      refine zr_iload F zd_MPacker_row_133 rfl ?_
      refine zr_iload_n F zd_MPacker_row_135 rfl ?_
      obtain ⟨le42, hs41, h⟩ := zoS_s h
      obtain ⟨p43, ep43, h⟩ := zoB_s h
      refine zr_callV1 F (k_MPacker_less l D tA b sh _ ep43) zd_MPacker_row_136 (zW_o hs41 (by decide)) rfl zs_MPacker_76 rfl zq_MPacker_less rfl rfl ⟨(Nat.le_of_ble_eq_true rfl), (Nat.le_of_ble_eq_true rfl)⟩ (Nat.le_of_ble_eq_true rfl) ⟨(Nat.le_of_ble_eq_true rfl), (Nat.le_of_ble_eq_true rfl)⟩ ?_
      obtain ⟨i44, ei44, h⟩ := zoL_s h
      rw [← ei44]
      obtain ⟨le46, hs45, h⟩ := zoS_s h
      obtain ⟨hi47, h⟩ := zoI_s h
      refine zr_iast F zd_MPacker_row_139 (zW_a0 hs45) hi47 ?_
      obtain ⟨mm48, emm48, h⟩ := zoL_s h
      refine zr_norm (zW tA b sh mm48) _ (by rw [emm48]; exact zW_s0 hs45) rfl ?_
      refine zr_aload_n F zd_MPacker_row_140 rfl ?_
      refine zr_pcn 141 rfl ?_
      refine zr_dup F zd_MPacker_row_141 rfl ?_
      obtain ⟨le50, hs49, h⟩ := zoS_s h
      refine zr_get F 12 1 zd_MPacker_row_142 (zW_o hs49 (by decide)) rfl (by decide) zw_1547 rfl (by rfl) ?_
      refine zr_iconstv (v := 1) F zd_MPacker_row_145 (by decide) ?_
      refine zr_iadd F zd_MPacker_row_146 ?_
      obtain ⟨x51, ex51, h⟩ := zoL_s h
      rw [← ex51]
      obtain ⟨le53, hs52, h⟩ := zoS_s h
      refine zr_put F 12 1 zd_MPacker_row_147 (zW_o hs52 (by decide)) rfl (by decide) zw_1547 rfl rfl rfl rfl (by exact (Nat.le_of_ble_eq_true rfl)) ?_
      obtain ⟨mm54, emm54, h⟩ := zoL_s h
      refine zr_norm (zW tA b sh mm54) _ (by rw [emm54]; exact zW_pI (v := x51) hs52 (by decide) (zf_I_12_1 b _ _ _)) rfl ?_
      refine zr_iinc (v := (v4 + 1)) F zd_MPacker_row_150 rfl rfl (by decide) ?_
      refine zr_goto F 112 zd_MPacker_row_153 (by decide) ?_
      refine zr_loc (L' := [(0, .ref (b + v0)), (1, .int v1), (2, .int v2), (4, .int (v4 + 1))]) ⟨rfl, rfl, rfl, rfl, trivial⟩ ?_
      exact ih _ _ _ _ _ _ h hx0
def F_MPacker_row (sh : zSh) (mm : zMem) (o : Nat) (x0_ : Int32) : Option zMem := Option.bind (L_MPacker_row_7 sh zfuel o x0_ 0 0 0 mm) (fun q16 => zoS (sh (q16.1)) 12 (fun le18 => Option.bind ((q16.2.2.2.2.2).2.2 (q16.1) 0) (fun a19 => zoS (sh (q16.1)) 12 (fun le21 => zoL ((q16.2.2.2.2.2).1 (q16.1) 1) (fun i22 => zoS (sh a19) 100 (fun le24 => if (i22 : Int32) < 0 ∨ le24 ≤ (i22 : Int32).toNatClampNeg then none else zoL (mI (q16.2.2.2.2.2) a19 (i22 : Int32).toNatClampNeg (q16.2.2.1)) (fun mm26 => zoS (sh (q16.1)) 12 (fun le28 => zoL ((mm26.1 (q16.1) 1) + 1) (fun x29 => zoS (sh (q16.1)) 12 (fun le31 => zoL (mI mm26 (q16.1) 1 x29) (fun mm32 => Option.bind (L_MPacker_row_112 sh zfuel (q16.1) (q16.2.1) (q16.2.2.1) 0 mm32) (fun q55 => some (q55.2.2.2.2)))))))))))))
set_option maxHeartbeats 4000000 in
set_option maxRecDepth 100000 in
theorem k_MPacker_row (l : Launch) (D : va_G) (tA : Nat → ClassId) (b : Nat) (sh : zSh) (n : Nat) {mm : zMem} {o : Nat} {x0_ : Int32} {r : zMem} (h : F_MPacker_row sh mm o x0_ = some r) : zM l D tA b zy_MPacker_row zb_MPacker_row 7 none 3 75 0 0 [.ref (b + o), .int x0_] (zW tA b sh mm) n (zE none (zW tA b sh r) n) := by
  unfold F_MPacker_row at h
  refine zM_of (own := "OrreryBoxModel$Packer") (plainFor_of_name (by decide)) rfl (Nat.le_of_ble_eq_true rfl) (fun p e s m below meth c F hr hin hH => ?_)
  refine zr_iconstv (v := 0) F zd_MPacker_row_0 (by decide) ?_
  refine zr_istore_n F zd_MPacker_row_1 (by decide) ?_
  refine zr_iconstv (v := 0) F zd_MPacker_row_2 (by decide) ?_
  refine zr_istore_n F zd_MPacker_row_3 (by decide) ?_
  refine zr_iconstv (v := 0) F zd_MPacker_row_4 (by decide) ?_
  refine zr_istore F zd_MPacker_row_5 (by decide) ?_
  obtain ⟨q16, eq16, h⟩ := zoB_s h
  refine zr_loc (L' := [(0, .ref (b + o)), (1, .int x0_), (2, .int 0), (3, .int 0), (4, .int 0)]) ⟨rfl, rfl, rfl, rfl, rfl, trivial⟩ ?_
  refine lp_MPacker_row_7 F _ _ _ _ _ _ _ _ eq16 ?_
  ·
    refine zr_aload_n F zd_MPacker_row_89 rfl ?_
    obtain ⟨le18, hs17, h⟩ := zoS_s h
    obtain ⟨a19, ea19, h⟩ := zoB_s h
    refine zr_get F 12 0 zd_MPacker_row_90 (zW_o hs17 (by decide)) rfl (by decide) zw_1546 rfl (by rfl) ?_
    refine zr_tor ea19 ?_
    refine zr_aload_n F zd_MPacker_row_93 rfl ?_
    obtain ⟨le21, hs20, h⟩ := zoS_s h
    refine zr_get F 12 1 zd_MPacker_row_94 (zW_o hs20 (by decide)) rfl (by decide) zw_1547 rfl (by rfl) ?_
    refine zr_iload_n F zd_MPacker_row_97 rfl ?_
    obtain ⟨i22, ei22, h⟩ := zoL_s h
    rw [← ei22]
    obtain ⟨le24, hs23, h⟩ := zoS_s h
    obtain ⟨hi25, h⟩ := zoI_s h
    refine zr_iast F zd_MPacker_row_98 (zW_a0 hs23) hi25 ?_
    obtain ⟨mm26, emm26, h⟩ := zoL_s h
    refine zr_norm (zW tA b sh mm26) _ (by rw [emm26]; exact zW_s0 hs23) rfl ?_
    refine zr_aload_n F zd_MPacker_row_99 rfl ?_
    refine zr_pcn 100 rfl ?_
    refine zr_dup F zd_MPacker_row_100 rfl ?_
    obtain ⟨le28, hs27, h⟩ := zoS_s h
    refine zr_get F 12 1 zd_MPacker_row_101 (zW_o hs27 (by decide)) rfl (by decide) zw_1547 rfl (by rfl) ?_
    refine zr_iconstv (v := 1) F zd_MPacker_row_104 (by decide) ?_
    refine zr_iadd F zd_MPacker_row_105 ?_
    obtain ⟨x29, ex29, h⟩ := zoL_s h
    rw [← ex29]
    obtain ⟨le31, hs30, h⟩ := zoS_s h
    refine zr_put F 12 1 zd_MPacker_row_106 (zW_o hs30 (by decide)) rfl (by decide) zw_1547 rfl rfl rfl rfl (by exact (Nat.le_of_ble_eq_true rfl)) ?_
    obtain ⟨mm32, emm32, h⟩ := zoL_s h
    refine zr_norm (zW tA b sh mm32) _ (by rw [emm32]; exact zW_pI (v := x29) hs30 (by decide) (zf_I_12_1 b _ _ _)) rfl ?_
    refine zr_iconstv (v := 0) F zd_MPacker_row_109 (by decide) ?_
    refine zr_istore F zd_MPacker_row_110 (by decide) ?_
    obtain ⟨q55, eq55, h⟩ := zoB_s h
    refine zr_loc (L' := [(0, .ref (b + (q16.1))), (1, .int (q16.2.1)), (2, .int (q16.2.2.1)), (4, .int 0)]) ⟨rfl, rfl, rfl, rfl, trivial⟩ ?_
    refine lp_MPacker_row_112 F _ _ _ _ _ _ _ eq55 ?_
    ·
      obtain rfl := Option.some.inj h
      exact zr_vret F hr zd_MPacker_row_156 (Nat.le_of_ble_eq_true rfl) (Nat.le_of_ble_eq_true rfl) ⟨rfl, rfl, rfl⟩
