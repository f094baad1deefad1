abbrev zb_MPacker_bit : ByteArray := prog_15_method_13_code
def zy_MPacker_bit : MethodName := ⟨"OrreryBoxModel$Packer", "bit", "(I)V"⟩
theorem zc_MPacker_bit : Cond.code zy_MPacker_bit zb_MPacker_bit 2 none ∈ gw := gw_t 2238 (by decide +kernel) rfl
theorem zq_MPacker_bit : zy_MPacker_bit.cls ≠ "java/lang/invoke/MethodHandle" ∧ zy_MPacker_bit.cls ≠ "java/lang/invoke/VarHandle" ∧ (parseMethodDescriptor zy_MPacker_bit.desc).map (fun d => d.parameters.length) = some 1 := by decide +kernel
theorem zd_MPacker_bit_0 : decode zb_MPacker_bit 0 = .ok (.aload_n 0, 1) := by decide +kernel
theorem zd_MPacker_bit_1 : decode zb_MPacker_bit 1 = .ok (.getfield 82, 3) := by decide +kernel
theorem zd_MPacker_bit_4 : decode zb_MPacker_bit 4 = .ok (.ifCond .ne 8, 3) := by decide +kernel
theorem zd_MPacker_bit_7 : decode zb_MPacker_bit 7 = .ok (.aload_n 0, 1) := by decide +kernel
theorem zd_MPacker_bit_8 : decode zb_MPacker_bit 8 = .ok (.iconst 0, 1) := by decide +kernel
theorem zd_MPacker_bit_9 : decode zb_MPacker_bit 9 = .ok (.invokevirtual 21, 3) := by decide +kernel
theorem zd_MPacker_bit_12 : decode zb_MPacker_bit 12 = .ok (.aload_n 0, 1) := by decide +kernel
theorem zd_MPacker_bit_13 : decode zb_MPacker_bit 13 = .ok (.getfield 13, 3) := by decide +kernel
theorem zd_MPacker_bit_16 : decode zb_MPacker_bit 16 = .ok (.aload_n 0, 1) := by decide +kernel
theorem zd_MPacker_bit_17 : decode zb_MPacker_bit 17 = .ok (.getfield 17, 3) := by decide +kernel
theorem zd_MPacker_bit_20 : decode zb_MPacker_bit 20 = .ok (.iconst 1, 1) := by decide +kernel
theorem zd_MPacker_bit_21 : decode zb_MPacker_bit 21 = .ok (.isub, 1) := by decide +kernel
theorem zd_MPacker_bit_22 : decode zb_MPacker_bit 22 = .ok (.dup2, 1) := by decide +kernel
theorem zd_MPacker_bit_23 : decode zb_MPacker_bit 23 = .ok (.baload, 1) := by decide +kernel
theorem zd_MPacker_bit_24 : decode zb_MPacker_bit 24 = .ok (.iload_n 1, 1) := by decide +kernel
theorem zd_MPacker_bit_25 : decode zb_MPacker_bit 25 = .ok (.aload_n 0, 1) := by decide +kernel
theorem zd_MPacker_bit_26 : decode zb_MPacker_bit 26 = .ok (.getfield 82, 3) := by decide +kernel
theorem zd_MPacker_bit_29 : decode zb_MPacker_bit 29 = .ok (.ishl, 1) := by decide +kernel
theorem zd_MPacker_bit_30 : decode zb_MPacker_bit 30 = .ok (.i2b, 1) := by decide +kernel
theorem zd_MPacker_bit_31 : decode zb_MPacker_bit 31 = .ok (.ior, 1) := by decide +kernel
theorem zd_MPacker_bit_32 : decode zb_MPacker_bit 32 = .ok (.i2b, 1) := by decide +kernel
theorem zd_MPacker_bit_33 : decode zb_MPacker_bit 33 = .ok (.bastore, 1) := by decide +kernel
theorem zd_MPacker_bit_34 : decode zb_MPacker_bit 34 = .ok (.aload_n 0, 1) := by decide +kernel
theorem zd_MPacker_bit_35 : decode zb_MPacker_bit 35 = .ok (.aload_n 0, 1) := by decide +kernel
theorem zd_MPacker_bit_36 : decode zb_MPacker_bit 36 = .ok (.getfield 82, 3) := by decide +kernel
theorem zd_MPacker_bit_39 : decode zb_MPacker_bit 39 = .ok (.iconst 1, 1) := by decide +kernel
theorem zd_MPacker_bit_40 : decode zb_MPacker_bit 40 = .ok (.iadd, 1) := by decide +kernel
theorem zd_MPacker_bit_41 : decode zb_MPacker_bit 41 = .ok (.bipush 8, 2) := by decide +kernel
theorem zd_MPacker_bit_43 : decode zb_MPacker_bit 43 = .ok (.irem, 1) := by decide +kernel
theorem zd_MPacker_bit_44 : decode zb_MPacker_bit 44 = .ok (.putfield 82, 3) := by decide +kernel
theorem zd_MPacker_bit_47 : decode zb_MPacker_bit 47 = .ok (.return_, 1) := by decide +kernel
theorem zw_1552 : (Jvm.Cond.fieldLink "OrreryBoxModel$Packer" (82 : Nat) "OrreryBoxModel$Packer" "bits" "I") ∈ gw := gw_t 1552 (by decide +kernel) rfl
theorem zf_I_12_4 (b : Nat) (m : zMem) (k : Nat) (v : Int32) : (zfl b 12 m k).set 4 (.int v) = zfl b 12 (mI m k 4 v) k := by simp [zfl, mI, upd, vp_updL]
def F_MPacker_bit (sh : zSh) (mm : zMem) (o : Nat) (x0_ : Int32) : Option zMem := zoS (sh o) 12 (fun le2 => (if (mm.1 o 4) = 0 then zoS (sh o) 12 (fun le27 => Option.bind (F_MPacker_put sh mm o 0) (fun p28 => zoS (sh o) 12 (fun le30 => Option.bind (p28.2.2 o 2) (fun a31 => zoS (sh o) 12 (fun le33 => zoL ((p28.1 o 3) - 1) (fun i34 => zoS (sh a31) 101 (fun le36 => if (i34 : Int32) < 0 ∨ le36 ≤ (i34 : Int32).toNatClampNeg then none else zoS (sh o) 12 (fun le39 => zoL ((((p28.1 a31 (i34 : Int32).toNatClampNeg) ||| (((x0_ <<< ((p28.1 o 4) &&& 31)) : Int32).toInt8.toInt32)) : Int32).toInt8.toInt32) (fun x40 => zoS (sh a31) 101 (fun le42 => if (i34 : Int32) < 0 ∨ le42 ≤ (i34 : Int32).toNatClampNeg then none else zoL (mI p28 a31 (i34 : Int32).toNatClampNeg (vp_nar .byte x40)) (fun mm44 => zoS (sh o) 12 (fun le46 => zoL (((mm44.1 o 4) + 1) - ((mm44.1 o 4) + 1) / 8 * 8) (fun x47 => zoS (sh o) 12 (fun le49 => zoL (mI mm44 o 4 x47) (fun mm50 => some mm50))))))))))))))) else zoS (sh o) 12 (fun le5 => Option.bind (mm.2.2 o 2) (fun a6 => zoS (sh o) 12 (fun le8 => zoL ((mm.1 o 3) - 1) (fun i9 => zoS (sh a6) 101 (fun le11 => if (i9 : Int32) < 0 ∨ le11 ≤ (i9 : Int32).toNatClampNeg then none else zoS (sh o) 12 (fun le14 => zoL ((((mm.1 a6 (i9 : Int32).toNatClampNeg) ||| (((x0_ <<< ((mm.1 o 4) &&& 31)) : Int32).toInt8.toInt32)) : Int32).toInt8.toInt32) (fun x15 => zoS (sh a6) 101 (fun le17 => if (i9 : Int32) < 0 ∨ le17 ≤ (i9 : Int32).toNatClampNeg then none else zoL (mI mm a6 (i9 : Int32).toNatClampNeg (vp_nar .byte x15)) (fun mm19 => zoS (sh o) 12 (fun le21 => zoL (((mm19.1 o 4) + 1) - ((mm19.1 o 4) + 1) / 8 * 8) (fun x22 => zoS (sh o) 12 (fun le24 => zoL (mI mm19 o 4 x22) (fun mm25 => some mm25)))))))))))))))
set_option maxHeartbeats 4000000 in
set_option maxRecDepth 100000 in
theorem k_MPacker_bit (l : Launch) (D : va_G) (tA : Nat → ClassId) (b : Nat) (sh : zSh) (n : Nat) {mm : zMem} {o : Nat} {x0_ : Int32} {r : zMem} (h : F_MPacker_bit sh mm o x0_ = some r) : zM l D tA b zy_MPacker_bit zb_MPacker_bit 2 none 1 21 0 0 [.ref (b + o), .int x0_] (zW tA b sh mm) n (zE none (zW tA b sh r) n) := by
  unfold F_MPacker_bit at h
  refine zM_of (own := "OrreryBoxModel$Packer") (plainFor_of_name (by decide)) rfl (Nat.le_of_ble_eq_true rfl) (fun p e s m below meth c F hr hin hH => ?_)
  refine zr_aload_n F zd_MPacker_bit_0 rfl ?_
  obtain ⟨le2, hs1, h⟩ := zoS_s h
  refine zr_get F 12 4 zd_MPacker_bit_1 (zW_o hs1 (by decide)) rfl (by decide) zw_1552 rfl (by rfl) ?_
  refine zr_if_ne F 12 zd_MPacker_bit_4 (by decide) (fun hb3 => ?_) (fun hb3 => ?_)
  ·
    rw [if_neg hb3] at h
    refine zr_aload_n F zd_MPacker_bit_12 rfl ?_
    obtain ⟨le5, hs4, h⟩ := zoS_s h
    obtain ⟨a6, ea6, h⟩ := zoB_s h
    refine zr_get F 12 2 zd_MPacker_bit_13 (zW_o hs4 (by decide)) rfl (by decide) zw_1548 rfl (by rfl) ?_
    refine zr_tor ea6 ?_
    refine zr_aload_n F zd_MPacker_bit_16 rfl ?_
    obtain ⟨le8, hs7, h⟩ := zoS_s h
    refine zr_get F 12 3 zd_MPacker_bit_17 (zW_o hs7 (by decide)) rfl (by decide) zw_1550 rfl (by rfl) ?_
    refine zr_pcn 20 rfl ?_
    refine zr_iconstv (v := 1) F zd_MPacker_bit_20 (by decide) ?_
    refine zr_isub F zd_MPacker_bit_21 ?_
    refine zr_dup2_11 F zd_MPacker_bit_22 rfl rfl ?_
    obtain ⟨i9, ei9, h⟩ := zoL_s h
    rw [← ei9]
    obtain ⟨le11, hs10, h⟩ := zoS_s h
    obtain ⟨hi12, h⟩ := zoI_s h
    refine zr_bald F zd_MPacker_bit_23 (zW_a1 hs10) hi12 ?_
    refine zr_iload_n F zd_MPacker_bit_24 rfl ?_
    refine zr_aload_n F zd_MPacker_bit_25 rfl ?_
    obtain ⟨le14, hs13, h⟩ := zoS_s h
    refine zr_get F 12 4 zd_MPacker_bit_26 (zW_o hs13 (by decide)) rfl (by decide) zw_1552 rfl (by rfl) ?_
    refine zr_ishl F zd_MPacker_bit_29 ?_
    refine zr_pcn 30 rfl ?_
    refine zr_i2b F zd_MPacker_bit_30 ?_
    refine zr_ior F zd_MPacker_bit_31 ?_
    refine zr_i2b F zd_MPacker_bit_32 ?_
    obtain ⟨x15, ex15, h⟩ := zoL_s h
    rw [← ex15]
    obtain ⟨le17, hs16, h⟩ := zoS_s h
    obtain ⟨hi18, h⟩ := zoI_s h
    refine zr_bast F zd_MPacker_bit_33 (zW_a1 hs16) hi18 ?_
    obtain ⟨mm19, emm19, h⟩ := zoL_s h
    refine zr_norm (zW tA b sh mm19) _ (by rw [emm19]; exact zW_s1 hs16) rfl ?_
    refine zr_aload_n F zd_MPacker_bit_34 rfl ?_
    refine zr_aload_n F zd_MPacker_bit_35 rfl ?_
    obtain ⟨le21, hs20, h⟩ := zoS_s h
    refine zr_get F 12 4 zd_MPacker_bit_36 (zW_o hs20 (by decide)) rfl (by decide) zw_1552 rfl (by rfl) ?_
    refine zr_iconstv (v := 1) F zd_MPacker_bit_39 (by decide) ?_
    refine zr_pcn 40 rfl ?_
    refine zr_iadd F zd_MPacker_bit_40 ?_
    refine zr_bipushv (v := 8) F zd_MPacker_bit_41 (by decide) ?_
    refine zr_irem F zd_MPacker_bit_43 (by decide) ?_
    obtain ⟨x22, ex22, h⟩ := zoL_s h
    rw [← ex22]
    obtain ⟨le24, hs23, h⟩ := zoS_s h
    refine zr_put F 12 4 zd_MPacker_bit_44 (zW_o hs23 (by decide)) rfl (by decide) zw_1552 rfl rfl rfl rfl (by exact (Nat.le_of_ble_eq_true rfl)) ?_
    obtain ⟨mm25, emm25, h⟩ := zoL_s h
    refine zr_norm (zW tA b sh mm25) _ (by rw [emm25]; exact zW_pI (v := x22) hs23 (by decide) (zf_I_12_4 b _ _ _)) rfl ?_
    obtain rfl := Option.some.inj h
    exact zr_vret F hr zd_MPacker_bit_47 (Nat.le_of_ble_eq_true rfl) (Nat.le_of_ble_eq_true rfl) ⟨rfl, rfl, rfl⟩
  ·
    rw [if_pos hb3] at h
    refine zr_aload_n F zd_MPacker_bit_7 rfl ?_
    refine zr_iconstv (v := 0) F zd_MPacker_bit_8 (by decide) ?_
    obtain ⟨le27, hs26, h⟩ := zoS_s h
    obtain ⟨p28, ep28, h⟩ := zoB_s h
    refine zr_callV0 F (k_MPacker_put l D tA b sh _ ep28) zd_MPacker_bit_9 (zW_o hs26 (by decide)) rfl zs_MPacker_21 rfl zq_MPacker_put rfl rfl ⟨(Nat.le_of_ble_eq_true rfl), (Nat.le_of_ble_eq_true rfl)⟩ (Nat.le_of_ble_eq_true rfl) ⟨(Nat.le_of_ble_eq_true rfl), (Nat.le_of_ble_eq_true rfl)⟩ ?_
    refine zr_pcn 12 rfl ?_
    refine zr_aload_n F zd_MPacker_bit_12 rfl ?_
    obtain ⟨le30, hs29, h⟩ := zoS_s h
    obtain ⟨a31, ea31, h⟩ := zoB_s h
    refine zr_get F 12 2 zd_MPacker_bit_13 (zW_o hs29 (by decide)) rfl (by decide) zw_1548 rfl (by rfl) ?_
    refine zr_tor ea31 ?_
    refine zr_aload_n F zd_MPacker_bit_16 rfl ?_
    obtain ⟨le33, hs32, h⟩ := zoS_s h
    refine zr_get F 12 3 zd_MPacker_bit_17 (zW_o hs32 (by decide)) rfl (by decide) zw_1550 rfl (by rfl) ?_
    refine zr_iconstv (v := 1) F zd_MPacker_bit_20 (by decide) ?_
    refine zr_isub F zd_MPacker_bit_21 ?_
    refine zr_dup2_11 F zd_MPacker_bit_22 rfl rfl ?_
    obtain ⟨i34, ei34, h⟩ := zoL_s h
    rw [← ei34]
    obtain ⟨le36, hs35, h⟩ := zoS_s h
    obtain ⟨hi37, h⟩ := zoI_s h
    refine zr_bald F zd_MPacker_bit_23 (zW_a1 hs35) hi37 ?_
    refine zr_pcn 24 rfl ?_
    refine zr_iload_n F zd_MPacker_bit_24 rfl ?_
    refine zr_aload_n F zd_MPacker_bit_25 rfl ?_
    obtain ⟨le39, hs38, h⟩ := zoS_s h
    refine zr_get F 12 4 zd_MPacker_bit_26 (zW_o hs38 (by decide)) rfl (by decide) zw_1552 rfl (by rfl) ?_
    refine zr_ishl F zd_MPacker_bit_29 ?_
    refine zr_i2b F zd_MPacker_bit_30 ?_
    refine zr_ior F zd_MPacker_bit_31 ?_
    refine zr_i2b F zd_MPacker_bit_32 ?_
    obtain ⟨x40, ex40, h⟩ := zoL_s h
    rw [← ex40]
    obtain ⟨le42, hs41, h⟩ := zoS_s h
    obtain ⟨hi43, h⟩ := zoI_s h
    refine zr_bast F zd_MPacker_bit_33 (zW_a1 hs41) hi43 ?_
    obtain ⟨mm44, emm44, h⟩ := zoL_s h
    refine zr_norm (zW tA b sh mm44) _ (by rw [emm44]; exact zW_s1 hs41) rfl ?_
    refine zr_pcn 34 rfl ?_
    refine zr_aload_n F zd_MPacker_bit_34 rfl ?_
    refine zr_aload_n F zd_MPacker_bit_35 rfl ?_
    obtain ⟨le46, hs45, h⟩ := zoS_s h
    refine zr_get F 12 4 zd_MPacker_bit_36 (zW_o hs45 (by decide)) rfl (by decide) zw_1552 rfl (by rfl) ?_
    refine zr_iconstv (v := 1) F zd_MPacker_bit_39 (by decide) ?_
    refine zr_iadd F zd_MPacker_bit_40 ?_
    refine zr_bipushv (v := 8) F zd_MPacker_bit_41 (by decide) ?_
    refine zr_irem F zd_MPacker_bit_43 (by decide) ?_
    obtain ⟨x47, ex47, h⟩ := zoL_s h
    rw [← ex47]
    obtain ⟨le49, hs48, h⟩ := zoS_s h
    refine zr_put F 12 4 zd_MPacker_bit_44 (zW_o hs48 (by decide)) rfl (by decide) zw_1552 rfl rfl rfl rfl (by exact (Nat.le_of_ble_eq_true rfl)) ?_
    obtain ⟨mm50, emm50, h⟩ := zoL_s h
    refine zr_norm (zW tA b sh mm50) _ (by rw [emm50]; exact zW_pI (v := x47) hs48 (by decide) (zf_I_12_4 b _ _ _)) rfl ?_
    refine zr_pcn 47 rfl ?_
    obtain rfl := Option.some.inj h
    exact zr_vret F hr zd_MPacker_bit_47 (Nat.le_of_ble_eq_true rfl) (Nat.le_of_ble_eq_true rfl) ⟨rfl, rfl, rfl⟩
abbrev zb_MPacker_lowFirst : ByteArray := prog_15_method_14_code
def zy_MPacker_lowFirst : MethodName := ⟨"OrreryBoxModel$Packer", "lowFirst", "(II)V"⟩
theorem zc_MPacker_lowFirst : Cond.code zy_MPacker_lowFirst zb_MPacker_lowFirst 4 none ∈ gw := gw_t 2255 (by decide +kernel) rfl
theorem zq_MPacker_lowFirst : zy_MPacker_lowFirst.cls ≠ "java/lang/invoke/MethodHandle" ∧ zy_MPacker_lowFirst.cls ≠ "java/lang/invoke/VarHandle" ∧ (parseMethodDescriptor zy_MPacker_lowFirst.desc).map (fun d => d.parameters.length) = some 2 := by decide +kernel
theorem zd_MPacker_lowFirst_0 : decode zb_MPacker_lowFirst 0 = .ok (.iconst 0, 1) := by decide +kernel
theorem zd_MPacker_lowFirst_1 : decode zb_MPacker_lowFirst 1 = .ok (.istore_n 3, 1) := by decide +kernel
theorem zd_MPacker_lowFirst_2 : decode zb_MPacker_lowFirst 2 = .ok (.iload_n 3, 1) := by decide +kernel
theorem zd_MPacker_lowFirst_3 : decode zb_MPacker_lowFirst 3 = .ok (.iload_n 2, 1) := by decide +kernel
theorem zd_MPacker_lowFirst_4 : decode zb_MPacker_lowFirst 4 = .ok (.if_icmp .ge 18, 3) := by decide +kernel
theorem zd_MPacker_lowFirst_7 : decode zb_MPacker_lowFirst 7 = .ok (.aload_n 0, 1) := by decide +kernel
theorem zd_MPacker_lowFirst_8 : decode zb_MPacker_lowFirst 8 = .ok (.iload_n 1, 1) := by decide +kernel
theorem zd_MPacker_lowFirst_9 : decode zb_MPacker_lowFirst 9 = .ok (.iload_n 3, 1) := by decide +kernel
theorem zd_MPacker_lowFirst_10 : decode zb_MPacker_lowFirst 10 = .ok (.ishr, 1) := by decide +kernel
theorem zd_MPacker_lowFirst_11 : decode zb_MPacker_lowFirst 11 = .ok (.iconst 1, 1) := by decide +kernel
theorem zd_MPacker_lowFirst_12 : decode zb_MPacker_lowFirst 12 = .ok (.iand, 1) := by decide +kernel
theorem zd_MPacker_lowFirst_13 : decode zb_MPacker_lowFirst 13 = .ok (.invokevirtual 85, 3) := by decide +kernel
theorem zd_MPacker_lowFirst_16 : decode zb_MPacker_lowFirst 16 = .ok (.iinc 3 1, 3) := by decide +kernel
theorem zd_MPacker_lowFirst_19 : decode zb_MPacker_lowFirst 19 = .ok (.goto (-17), 3) := by decide +kernel
theorem zd_MPacker_lowFirst_22 : decode zb_MPacker_lowFirst 22 = .ok (.return_, 1) := by decide +kernel
theorem zw_2235 : (Jvm.Cond.methodLink "OrreryBoxModel$Packer" (85 : Nat) ({ cls := "OrreryBoxModel$Packer", name := "bit", desc := "(I)V" } : Jvm.MethodName)) ∈ gw := gw_t 2235 (by decide +kernel) rfl
theorem zw_2237 : (Jvm.Cond.instanceMethod ({ cls := "OrreryBoxModel$Packer", name := "bit", desc := "(I)V" } : Jvm.MethodName)) ∈ gw := gw_t 2237 (by decide +kernel) rfl
theorem zv_128 : (Jvm.Cond.selects "OrreryBoxModel$Packer" (⟨"OrreryBoxModel$Packer", "bit", "(I)V"⟩ : MethodName) ⟨"OrreryBoxModel$Packer", "bit", "(I)V"⟩) ∈ gw := gw_s 128 (by decide +kernel) rfl
theorem zs_MPacker_85 : zwV "OrreryBoxModel$Packer" 85 "OrreryBoxModel$Packer" zy_MPacker_bit zb_MPacker_bit 2 none := ⟨zw_2235, zw_2237, zv_128, zw_16, zc_MPacker_bit⟩
def L_MPacker_lowFirst_2 (sh : zSh) (fuel : Nat) (v0 : Nat) (v1 : Int32) (v2 : Int32) (v3 : Int32) (mm : zMem) : Option (Nat × Int32 × Int32 × Int32 × zMem) := match fuel with
  | 0 => none
  | fu + 1 => (if v2 ≤ v3 then some (v0, v1, v2, v3, mm) else zoS (sh v0) 12 (fun le3 => Option.bind (F_MPacker_bit sh mm v0 ((v1 >>> (v3 &&& 31)) &&& 1)) (fun p4 => L_MPacker_lowFirst_2 sh fu v0 v1 v2 (v3 + 1) p4)))
set_option maxHeartbeats 4000000 in
set_option maxRecDepth 100000 in
theorem lp_MPacker_lowFirst_2 {p : Program} {l : Launch} {e : Env} {s : State} {m : MethodId} {args : Array Value} {below : List Frame} {meth : Method} {c : Code} {D : va_G} {tA : Nat → ClassId} {b n : Nat} {post : Option Value → zV → Nat → Prop} {sh : zSh} (F : zF p s m args meth c zb_MPacker_lowFirst 4 "OrreryBoxModel$Packer" D tA b) : ∀ (fuel : Nat) (v0 : Nat) (v1 : Int32) (v2 : Int32) (v3 : Int32) (mm : zMem) (r : Nat × Int32 × Int32 × Int32 × zMem), L_MPacker_lowFirst_2 sh fuel v0 v1 v2 v3 mm = some r → (Z p l e { frames := 2, cells := 0, slots := 0, locals := 42 } s m args below meth c D b 4 (MQ below (zQ D b post) args s 0 0 (fun q => b ≤ q)) (zW tA b sh r.2.2.2.2) n 0 0 22 [(0, .ref (b + (r.1))), (1, .int (r.2.1)), (2, .int (r.2.2.1)), (3, .int (r.2.2.2.1))] []) → Z p l e { frames := 2, cells := 0, slots := 0, locals := 42 } s m args below meth c D b 4 (MQ below (zQ D b post) args s 0 0 (fun q => b ≤ q)) (zW tA b sh mm) n 0 0 2 [(0, .ref (b + v0)), (1, .int v1), (2, .int v2), (3, .int v3)] [] := by
  intro fuel
  induction fuel with
  | zero =>
    intro v0 v1 v2 v3 mm r h
    cases h
  | succ fu ih =>
    intro v0 v1 v2 v3 mm r h hx0
    rw [L_MPacker_lowFirst_2] at h
    refine zr_iload_n F zd_MPacker_lowFirst_2 rfl ?_
    refine zr_iload_n F zd_MPacker_lowFirst_3 rfl ?_
    refine zr_icmp_ge F 22 zd_MPacker_lowFirst_4 (by decide) (fun hb1 => ?_) (fun hb1 => ?_)
    ·
      rw [if_pos hb1] at h
      obtain rfl := Option.some.inj h
      refine zr_loc (L' := [(0, .ref (b + v0)), (1, .int v1), (2, .int v2), (3, .int v3)]) ⟨rfl, rfl, rfl, rfl, trivial⟩ ?_
      exact hx0 
    ·
      rw [if_neg hb1] at h
      refine zr_aload_n F zd_MPacker_lowFirst_7 rfl ?_
      refine zr_iload_n F zd_MPacker_lowFirst_8 rfl ?_
      refine zr_pcn 9 rfl ?_
      refine zr_iload_n F zd_MPacker_lowFirst_9 rfl ?_
      refine zr_ishr F zd_MPacker_lowFirst_10 ?_
      refine zr_iconstv (v := 1) F zd_MPacker_lowFirst_11 (by decide) ?_
      refine zr_iand F zd_MPacker_lowFirst_12 ?_
      obtain ⟨le3, hs2, h⟩ := zoS_s h
      obtain ⟨p4, ep4, h⟩ := zoB_s h
      refine zr_callV0 F (k_MPacker_bit l D tA b sh _ ep4) zd_MPacker_lowFirst_13 (zW_o hs2 (by decide)) rfl zs_MPacker_85 rfl zq_MPacker_bit rfl rfl ⟨(Nat.le_of_ble_eq_true rfl), (Nat.le_of_ble_eq_true rfl)⟩ (Nat.le_of_ble_eq_true rfl) ⟨(Nat.le_of_ble_eq_true rfl), (Nat.le_of_ble_eq_true rfl)⟩ ?_
      refine zr_iinc (v := (v3 + 1)) F zd_MPacker_lowFirst_16 rfl rfl (by decide) ?_
      refine zr_goto F 2 zd_MPacker_lowFirst_19 (by decide) ?_
      refine zr_loc (L' := [(0, .ref (b + v0)), (1, .int v1), (2, .int v2), (3, .int (v3 + 1))]) ⟨rfl, rfl, rfl, rfl, trivial⟩ ?_
      exact ih _ _ _ _ _ _ h hx0
def F_MPacker_lowFirst (sh : zSh) (mm : zMem) (o : Nat) (x0_ : Int32) (x1_ : Int32) : Option zMem := Option.bind (L_MPacker_lowFirst_2 sh zfuel o x0_ x1_ 0 mm) (fun q5 => some (q5.2.2.2.2))
set_option maxHeartbeats 4000000 in
set_option maxRecDepth 100000 in
theorem k_MPacker_lowFirst (l : Launch) (D : va_G) (tA : Nat → ClassId) (b : Nat) (sh : zSh) (n : Nat) {mm : zMem} {o : Nat} {x0_ : Int32} {x1_ : Int32} {r : zMem} (h : F_MPacker_lowFirst sh mm o x0_ x1_ = some r) : zM l D tA b zy_MPacker_lowFirst zb_MPacker_lowFirst 4 none 2 42 0 0 [.ref (b + o), .int x0_, .int x1_] (zW tA b sh mm) n (zE none (zW tA b sh r) n) := by
  unfold F_MPacker_lowFirst at h
  refine zM_of (own := "OrreryBoxModel$Packer") (plainFor_of_name (by decide)) rfl (Nat.le_of_ble_eq_true rfl) (fun p e s m below meth c F hr hin hH => ?_)
  refine zr_iconstv (v := 0) F zd_MPacker_lowFirst_0 (by decide) ?_
  refine zr_istore_n F zd_MPacker_lowFirst_1 (by decide) ?_
  obtain ⟨q5, eq5, h⟩ := zoB_s h
  refine zr_loc (L' := [(0, .ref (b + o)), (1, .int x0_), (2, .int x1_), (3, .int 0)]) ⟨rfl, rfl, rfl, rfl, trivial⟩ ?_
  refine lp_MPacker_lowFirst_2 F _ _ _ _ _ _ _ eq5 ?_
  ·
    obtain rfl := Option.some.inj h
    exact zr_vret F hr zd_MPacker_lowFirst_22 (Nat.le_of_ble_eq_true rfl) (Nat.le_of_ble_eq_true rfl) ⟨rfl, rfl, rfl⟩
abbrev zb_MPacker_highFirst : ByteArray := prog_15_method_15_code
def zy_MPacker_highFirst : MethodName := ⟨"OrreryBoxModel$Packer", "highFirst", "(II)V"⟩
theorem zc_MPacker_highFirst : Cond.code zy_MPacker_highFirst zb_MPacker_highFirst 4 none ∈ gw := gw_t 2251 (by decide +kernel) rfl
theorem zq_MPacker_highFirst : zy_MPacker_highFirst.cls ≠ "java/lang/invoke/MethodHandle" ∧ zy_MPacker_highFirst.cls ≠ "java/lang/invoke/VarHandle" ∧ (parseMethodDescriptor zy_MPacker_highFirst.desc).map (fun d => d.parameters.length) = some 2 := by decide +kernel
theorem zd_MPacker_highFirst_0 : decode zb_MPacker_highFirst 0 = .ok (.iload_n 2, 1) := by decide +kernel
theorem zd_MPacker_highFirst_1 : decode zb_MPacker_highFirst 1 = .ok (.iconst 1, 1) := by decide +kernel
theorem zd_MPacker_highFirst_2 : decode zb_MPacker_highFirst 2 = .ok (.isub, 1) := by decide +kernel
theorem zd_MPacker_highFirst_3 : decode zb_MPacker_highFirst 3 = .ok (.istore_n 3, 1) := by decide +kernel
theorem zd_MPacker_highFirst_4 : decode zb_MPacker_highFirst 4 = .ok (.iload_n 3, 1) := by decide +kernel
theorem zd_MPacker_highFirst_5 : decode zb_MPacker_highFirst 5 = .ok (.ifCond .lt 18, 3) := by decide +kernel
theorem zd_MPacker_highFirst_8 : decode zb_MPacker_highFirst 8 = .ok (.aload_n 0, 1) := by decide +kernel
theorem zd_MPacker_highFirst_9 : decode zb_MPacker_highFirst 9 = .ok (.iload_n 1, 1) := by decide +kernel
theorem zd_MPacker_highFirst_10 : decode zb_MPacker_highFirst 10 = .ok (.iload_n 3, 1) := by decide +kernel
theorem zd_MPacker_highFirst_11 : decode zb_MPacker_highFirst 11 = .ok (.ishr, 1) := by decide +kernel
theorem zd_MPacker_highFirst_12 : decode zb_MPacker_highFirst 12 = .ok (.iconst 1, 1) := by decide +kernel
theorem zd_MPacker_highFirst_13 : decode zb_MPacker_highFirst 13 = .ok (.iand, 1) := by decide +kernel
theorem zd_MPacker_highFirst_14 : decode zb_MPacker_highFirst 14 = .ok (.invokevirtual 85, 3) := by decide +kernel
theorem zd_MPacker_highFirst_17 : decode zb_MPacker_highFirst 17 = .ok (.iinc 3 (-1), 3) := by decide +kernel
theorem zd_MPacker_highFirst_20 : decode zb_MPacker_highFirst 20 = .ok (.goto (-16), 3) := by decide +kernel
theorem zd_MPacker_highFirst_23 : decode zb_MPacker_highFirst 23 = .ok (.return_, 1) := by decide +kernel
def L_MPacker_highFirst_4 (sh : zSh) (fuel : Nat) (v0 : Nat) (v1 : Int32) (v3 : Int32) (mm : zMem) : Option (Nat × Int32 × Int32 × zMem) := match fuel with
  | 0 => none
  | fu + 1 => (if v3 < 0 then some (v0, v1, v3, mm) else zoS (sh v0) 12 (fun le4 => Option.bind (F_MPacker_bit sh mm v0 ((v1 >>> (v3 &&& 31)) &&& 1)) (fun p5 => L_MPacker_highFirst_4 sh fu v0 v1 (v3 + (-1)) p5)))
set_option maxHeartbeats 4000000 in
set_option maxRecDepth 100000 in
theorem lp_MPacker_highFirst_4 {p : Program} {l : Launch} {e : Env} {s : State} {m : MethodId} {args : Array Value} {below : List Frame} {meth : Method} {c : Code} {D : va_G} {tA : Nat → ClassId} {b n : Nat} {post : Option Value → zV → Nat → Prop} {sh : zSh} (F : zF p s m args meth c zb_MPacker_highFirst 4 "OrreryBoxModel$Packer" D tA b) : ∀ (fuel : Nat) (v0 : Nat) (v1 : Int32) (v3 : Int32) (mm : zMem) (r : Nat × Int32 × Int32 × zMem), L_MPacker_highFirst_4 sh fuel v0 v1 v3 mm = some r → (Z p l e { frames := 2, cells := 0, slots := 0, locals := 42 } s m args below meth c D b 4 (MQ below (zQ D b post) args s 0 0 (fun q => b ≤ q)) (zW tA b sh r.2.2.2) n 0 0 23 [(0, .ref (b + (r.1))), (1, .int (r.2.1)), (3, .int (r.2.2.1))] []) → Z p l e { frames := 2, cells := 0, slots := 0, locals := 42 } s m args below meth c D b 4 (MQ below (zQ D b post) args s 0 0 (fun q => b ≤ q)) (zW tA b sh mm) n 0 0 4 [(0, .ref (b + v0)), (1, .int v1), (3, .int v3)] [] := by
  intro fuel
  induction fuel with
  | zero =>
    intro v0 v1 v3 mm r h
    cases h
  | succ fu ih =>
    intro v0 v1 v3 mm r h hx0
    rw [L_MPacker_highFirst_4] at h
    refine zr_iload_n F zd_MPacker_highFirst_4 rfl ?_
    refine zr_if_lt F 23 zd_MPacker_highFirst_5 (by decide) (fun hb2 => ?_) (fun hb2 => ?_)
    ·
      rw [if_pos hb2] at h
      obtain rfl := Option.some.inj h
      refine zr_loc (L' := [(0, .ref (b + v0)), (1, .int v1), (3, .int v3)]) ⟨rfl, rfl, rfl, trivial⟩ ?_
      exact hx0 
    ·
      rw [if_neg hb2] at h
      refine zr_aload_n F zd_MPacker_highFirst_8 rfl ?_
      refine zr_pcn 9 rfl ?_
      refine zr_iload_n F zd_MPacker_highFirst_9 rfl ?_
      refine zr_iload_n F zd_MPacker_highFirst_10 rfl ?_
      refine zr_ishr F zd_MPacker_highFirst_11 ?_
      refine zr_iconstv (v := 1) F zd_MPacker_highFirst_12 (by decide) ?_
      refine zr_iand F zd_MPacker_highFirst_13 ?_
      obtain ⟨le4, hs3, h⟩ := zoS_s h
      obtain ⟨p5, ep5, h⟩ := zoB_s h
      refine zr_callV0 F (k_MPacker_bit l D tA b sh _ ep5) zd_MPacker_highFirst_14 (zW_o hs3 (by decide)) rfl zs_MPacker_85 rfl zq_MPacker_bit rfl rfl ⟨(Nat.le_of_ble_eq_true rfl), (Nat.le_of_ble_eq_true rfl)⟩ (Nat.le_of_ble_eq_true rfl) ⟨(Nat.le_of_ble_eq_true rfl), (Nat.le_of_ble_eq_true rfl)⟩ ?_
      refine zr_iinc (v := (v3 + (-1))) F zd_MPacker_highFirst_17 rfl rfl (by decide) ?_
      refine zr_goto F 4 zd_MPacker_highFirst_20 (by decide) ?_
      refine zr_loc (L' := [(0, .ref (b + v0)), (1, .int v1), (3, .int (v3 + (-1)))]) ⟨rfl, rfl, rfl, trivial⟩ ?_
      exact ih _ _ _ _ _ h hx0
def F_MPacker_highFirst (sh : zSh) (mm : zMem) (o : Nat) (x0_ : Int32) (x1_ : Int32) : Option zMem := zoL (x1_ - 1) (fun x1 => Option.bind (L_MPacker_highFirst_4 sh zfuel o x0_ x1 mm) (fun q6 => some (q6.2.2.2)))
set_option maxHeartbeats 4000000 in
set_option maxRecDepth 100000 in
theorem k_MPacker_highFirst (l : Launch) (D : va_G) (tA : Nat → ClassId) (b : Nat) (sh : zSh) (n : Nat) {mm : zMem} {o : Nat} {x0_ : Int32} {x1_ : Int32} {r : zMem} (h : F_MPacker_highFirst sh mm o x0_ x1_ = some r) : zM l D tA b zy_MPacker_highFirst zb_MPacker_highFirst 4 none 2 42 0 0 [.ref (b + o), .int x0_, .int x1_] (zW tA b sh mm) n (zE none (zW tA b sh r) n) := by
  unfold F_MPacker_highFirst at h
  refine zM_of (own := "OrreryBoxModel$Packer") (plainFor_of_name (by decide)) rfl (Nat.le_of_ble_eq_true rfl) (fun p e s m below meth c F hr hin hH => ?_)
  refine zr_iload_n F zd_MPacker_highFirst_0 rfl ?_
  refine zr_iconstv (v := 1) F zd_MPacker_highFirst_1 (by decide) ?_
  refine zr_isub F zd_MPacker_highFirst_2 ?_
  obtain ⟨x1, ex1, h⟩ := zoL_s h
  rw [← ex1]
  refine zr_istore_n F zd_MPacker_highFirst_3 (by decide) ?_
  obtain ⟨q6, eq6, h⟩ := zoB_s h
  refine zr_loc (L' := [(0, .ref (b + o)), (1, .int x0_), (3, .int x1)]) ⟨rfl, rfl, rfl, trivial⟩ ?_
  refine lp_MPacker_highFirst_4 F _ _ _ _ _ _ eq6 ?_
  ·
    refine zr_pcn 23 rfl ?_
    obtain rfl := Option.some.inj h
    exact zr_vret F hr zd_MPacker_highFirst_23 (Nat.le_of_ble_eq_true rfl) (Nat.le_of_ble_eq_true rfl) ⟨rfl, rfl, rfl⟩
abbrev zb_MPacker_one : ByteArray := prog_15_method_16_code
def zy_MPacker_one : MethodName := ⟨"OrreryBoxModel$Packer", "one", "(I)V"⟩
theorem zc_MPacker_one : Cond.code zy_MPacker_one zb_MPacker_one 2 none ∈ gw := gw_t 2263 (by decide +kernel) rfl
theorem zq_MPacker_one : zy_MPacker_one.cls ≠ "java/lang/invoke/MethodHandle" ∧ zy_MPacker_one.cls ≠ "java/lang/invoke/VarHandle" ∧ (parseMethodDescriptor zy_MPacker_one.desc).map (fun d => d.parameters.length) = some 1 := by decide +kernel
theorem zd_MPacker_one_0 : decode zb_MPacker_one 0 = .ok (.iload_n 1, 1) := by decide +kernel
theorem zd_MPacker_one_1 : decode zb_MPacker_one 1 = .ok (.sipush 144, 3) := by decide +kernel
theorem zd_MPacker_one_4 : decode zb_MPacker_one 4 = .ok (.if_icmp .ge 16, 3) := by decide +kernel
theorem zd_MPacker_one_7 : decode zb_MPacker_one 7 = .ok (.aload_n 0, 1) := by decide +kernel
theorem zd_MPacker_one_8 : decode zb_MPacker_one 8 = .ok (.bipush 48, 2) := by decide +kernel
theorem zd_MPacker_one_10 : decode zb_MPacker_one 10 = .ok (.iload_n 1, 1) := by decide +kernel
theorem zd_MPacker_one_11 : decode zb_MPacker_one 11 = .ok (.iadd, 1) := by decide +kernel
theorem zd_MPacker_one_12 : decode zb_MPacker_one 12 = .ok (.bipush 8, 2) := by decide +kernel
theorem zd_MPacker_one_14 : decode zb_MPacker_one 14 = .ok (.invokevirtual 88, 3) := by decide +kernel
theorem zd_MPacker_one_17 : decode zb_MPacker_one 17 = .ok (.goto 18, 3) := by decide +kernel
theorem zd_MPacker_one_20 : decode zb_MPacker_one 20 = .ok (.aload_n 0, 1) := by decide +kernel
theorem zd_MPacker_one_21 : decode zb_MPacker_one 21 = .ok (.sipush 400, 3) := by decide +kernel
theorem zd_MPacker_one_24 : decode zb_MPacker_one 24 = .ok (.iload_n 1, 1) := by decide +kernel
theorem zd_MPacker_one_25 : decode zb_MPacker_one 25 = .ok (.iadd, 1) := by decide +kernel
theorem zd_MPacker_one_26 : decode zb_MPacker_one 26 = .ok (.sipush 144, 3) := by decide +kernel
theorem zd_MPacker_one_29 : decode zb_MPacker_one 29 = .ok (.isub, 1) := by decide +kernel
theorem zd_MPacker_one_30 : decode zb_MPacker_one 30 = .ok (.bipush 9, 2) := by decide +kernel
theorem zd_MPacker_one_32 : decode zb_MPacker_one 32 = .ok (.invokevirtual 88, 3) := by decide +kernel
theorem zd_MPacker_one_35 : decode zb_MPacker_one 35 = .ok (.return_, 1) := by decide +kernel
theorem zw_2248 : (Jvm.Cond.methodLink "OrreryBoxModel$Packer" (88 : Nat) ({ cls := "OrreryBoxModel$Packer", name := "highFirst", desc := "(II)V" } : Jvm.MethodName)) ∈ gw := gw_t 2248 (by decide +kernel) rfl
theorem zw_2250 : (Jvm.Cond.instanceMethod ({ cls := "OrreryBoxModel$Packer", name := "highFirst", desc := "(II)V" } : Jvm.MethodName)) ∈ gw := gw_t 2250 (by decide +kernel) rfl
theorem zv_131 : (Jvm.Cond.selects "OrreryBoxModel$Packer" (⟨"OrreryBoxModel$Packer", "highFirst", "(II)V"⟩ : MethodName) ⟨"OrreryBoxModel$Packer", "highFirst", "(II)V"⟩) ∈ gw := gw_s 131 (by decide +kernel) rfl
theorem zs_MPacker_88 : zwV "OrreryBoxModel$Packer" 88 "OrreryBoxModel$Packer" zy_MPacker_highFirst zb_MPacker_highFirst 4 none := ⟨zw_2248, zw_2250, zv_131, zw_16, zc_MPacker_highFirst⟩
def F_MPacker_one (sh : zSh) (mm : zMem) (o : Nat) (x0_ : Int32) : Option zMem := (if 144 ≤ x0_ then zoS (sh o) 12 (fun le3 => Option.bind (F_MPacker_highFirst sh mm o ((400 + x0_) - 144) 9) (fun p4 => some p4)) else zoS (sh o) 12 (fun le6 => Option.bind (F_MPacker_highFirst sh mm o (48 + x0_) 8) (fun p7 => some p7)))
set_option maxHeartbeats 4000000 in
set_option maxRecDepth 100000 in
theorem k_MPacker_one (l : Launch) (D : va_G) (tA : Nat → ClassId) (b : Nat) (sh : zSh) (n : Nat) {mm : zMem} {o : Nat} {x0_ : Int32} {r : zMem} (h : F_MPacker_one sh mm o x0_ = some r) : zM l D tA b zy_MPacker_one zb_MPacker_one 2 none 3 65 0 0 [.ref (b + o), .int x0_] (zW tA b sh mm) n (zE none (zW tA b sh r) n) := by
  unfold F_MPacker_one at h
  refine zM_of (own := "OrreryBoxModel$Packer") (plainFor_of_name (by decide)) rfl (Nat.le_of_ble_eq_true rfl) (fun p e s m below meth c F hr hin hH => ?_)
  refine zr_iload_n F zd_MPacker_one_0 rfl ?_
  refine zr_sipushv (v := 144) F zd_MPacker_one_1 (by decide) ?_
  refine zr_icmp_ge F 20 zd_MPacker_one_4 (by decide) (fun hb1 => ?_) (fun hb1 => ?_)
  ·
    rw [if_pos hb1] at h
    refine zr_aload_n F zd_MPacker_one_20 rfl ?_
    refine zr_sipushv (v := 400) F zd_MPacker_one_21 (by decide) ?_
    refine zr_iload_n F zd_MPacker_one_24 rfl ?_
    refine zr_iadd F zd_MPacker_one_25 ?_
    refine zr_pcn 26 rfl ?_
    refine zr_sipushv (v := 144) F zd_MPacker_one_26 (by decide) ?_
    refine zr_isub F zd_MPacker_one_29 ?_
    refine zr_bipushv (v := 9) F zd_MPacker_one_30 (by decide) ?_
    obtain ⟨le3, hs2, h⟩ := zoS_s h
    obtain ⟨p4, ep4, h⟩ := zoB_s h
    refine zr_callV0 F (k_MPacker_highFirst l D tA b sh _ ep4) zd_MPacker_one_32 (zW_o hs2 (by decide)) rfl zs_MPacker_88 rfl zq_MPacker_highFirst rfl rfl ⟨(Nat.le_of_ble_eq_true rfl), (Nat.le_of_ble_eq_true rfl)⟩ (Nat.le_of_ble_eq_true rfl) ⟨(Nat.le_of_ble_eq_true rfl), (Nat.le_of_ble_eq_true rfl)⟩ ?_
    obtain rfl := Option.some.inj h
    exact zr_vret F hr zd_MPacker_one_35 (Nat.le_of_ble_eq_true rfl) (Nat.le_of_ble_eq_true rfl) ⟨rfl, rfl, rfl⟩
  ·
    rw [if_neg hb1] at h
    refine zr_aload_n F zd_MPacker_one_7 rfl ?_
    refine zr_bipushv (v := 48) F zd_MPacker_one_8 (by decide) ?_
    refine zr_iload_n F zd_MPacker_one_10 rfl ?_
    refine zr_pcn 11 rfl ?_
    refine zr_iadd F zd_MPacker_one_11 ?_
    refine zr_bipushv (v := 8) F zd_MPacker_one_12 (by decide) ?_
    obtain ⟨le6, hs5, h⟩ := zoS_s h
    obtain ⟨p7, ep7, h⟩ := zoB_s h
    refine zr_callV0 F (k_MPacker_highFirst l D tA b sh _ ep7) zd_MPacker_one_14 (zW_o hs5 (by decide)) rfl zs_MPacker_88 rfl zq_MPacker_highFirst rfl rfl ⟨(Nat.le_of_ble_eq_true rfl), (Nat.le_of_ble_eq_true rfl)⟩ (Nat.le_of_ble_eq_true rfl) ⟨(Nat.le_of_ble_eq_true rfl), (Nat.le_of_ble_eq_true rfl)⟩ ?_
    refine zr_goto F 35 zd_MPacker_one_17 (by decide) ?_
    obtain rfl := Option.some.inj h
    exact zr_vret F hr zd_MPacker_one_35 (Nat.le_of_ble_eq_true rfl) (Nat.le_of_ble_eq_true rfl) ⟨rfl, rfl, rfl⟩
abbrev zb_MPacker_run : ByteArray := prog_15_method_17_code
def zy_MPacker_run : MethodName := ⟨"OrreryBoxModel$Packer", "run", "(I)V"⟩
theorem zc_MPacker_run : Cond.code zy_MPacker_run zb_MPacker_run 8 none ∈ gw := gw_t 2247 (by decide +kernel) rfl
theorem zq_MPacker_run : zy_MPacker_run.cls ≠ "java/lang/invoke/MethodHandle" ∧ zy_MPacker_run.cls ≠ "java/lang/invoke/VarHandle" ∧ (parseMethodDescriptor zy_MPacker_run.desc).map (fun d => d.parameters.length) = some 1 := by decide +kernel
theorem zd_MPacker_run_0 : decode zb_MPacker_run 0 = .ok (.iload_n 1, 1) := by decide +kernel
theorem zd_MPacker_run_1 : decode zb_MPacker_run 1 = .ok (.bipush 11, 2) := by decide +kernel
theorem zd_MPacker_run_3 : decode zb_MPacker_run 3 = .ok (.if_icmp .ge 13, 3) := by decide +kernel
theorem zd_MPacker_run_6 : decode zb_MPacker_run 6 = .ok (.sipush 257, 3) := by decide +kernel
theorem zd_MPacker_run_9 : decode zb_MPacker_run 9 = .ok (.iload_n 1, 1) := by decide +kernel
theorem zd_MPacker_run_10 : decode zb_MPacker_run 10 = .ok (.iadd, 1) := by decide +kernel
theorem zd_MPacker_run_11 : decode zb_MPacker_run 11 = .ok (.iconst 3, 1) := by decide +kernel
theorem zd_MPacker_run_12 : decode zb_MPacker_run 12 = .ok (.isub, 1) := by decide +kernel
theorem zd_MPacker_run_13 : decode zb_MPacker_run 13 = .ok (.goto 6, 3) := by decide +kernel
theorem zd_MPacker_run_16 : decode zb_MPacker_run 16 = .ok (.sipush 285, 3) := by decide +kernel
theorem zd_MPacker_run_19 : decode zb_MPacker_run 19 = .ok (.istore_n 2, 1) := by decide +kernel
theorem zd_MPacker_run_20 : decode zb_MPacker_run 20 = .ok (.iconst 0, 1) := by decide +kernel
theorem zd_MPacker_run_21 : decode zb_MPacker_run 21 = .ok (.istore_n 3, 1) := by decide +kernel
theorem zd_MPacker_run_22 : decode zb_MPacker_run 22 = .ok (.iconst 0, 1) := by decide +kernel
theorem zd_MPacker_run_23 : decode zb_MPacker_run 23 = .ok (.istore 4, 2) := by decide +kernel
theorem zd_MPacker_run_25 : decode zb_MPacker_run 25 = .ok (.bipush 11, 2) := by decide +kernel
theorem zd_MPacker_run_27 : decode zb_MPacker_run 27 = .ok (.istore 5, 2) := by decide +kernel
theorem zd_MPacker_run_29 : decode zb_MPacker_run 29 = .ok (.iconst 1, 1) := by decide +kernel
theorem zd_MPacker_run_30 : decode zb_MPacker_run 30 = .ok (.istore 6, 2) := by decide +kernel
theorem zd_MPacker_run_32 : decode zb_MPacker_run 32 = .ok (.iload 6, 2) := by decide +kernel
theorem zd_MPacker_run_34 : decode zb_MPacker_run 34 = .ok (.iconst 5, 1) := by decide +kernel
theorem zd_MPacker_run_35 : decode zb_MPacker_run 35 = .ok (.if_icmp .gt 83, 3) := by decide +kernel
theorem zd_MPacker_run_38 : decode zb_MPacker_run 38 = .ok (.iload_n 1, 1) := by decide +kernel
theorem zd_MPacker_run_39 : decode zb_MPacker_run 39 = .ok (.bipush 11, 2) := by decide +kernel
theorem zd_MPacker_run_41 : decode zb_MPacker_run 41 = .ok (.if_icmp .lt 77, 3) := by decide +kernel
theorem zd_MPacker_run_44 : decode zb_MPacker_run 44 = .ok (.iload_n 1, 1) := by decide +kernel
theorem zd_MPacker_run_45 : decode zb_MPacker_run 45 = .ok (.sipush 258, 3) := by decide +kernel
theorem zd_MPacker_run_48 : decode zb_MPacker_run 48 = .ok (.if_icmp .ge 70, 3) := by decide +kernel
theorem zd_MPacker_run_51 : decode zb_MPacker_run 51 = .ok (.iconst 1, 1) := by decide +kernel
theorem zd_MPacker_run_52 : decode zb_MPacker_run 52 = .ok (.iload 6, 2) := by decide +kernel
theorem zd_MPacker_run_54 : decode zb_MPacker_run 54 = .ok (.ishl, 1) := by decide +kernel
theorem zd_MPacker_run_55 : decode zb_MPacker_run 55 = .ok (.istore 7, 2) := by decide +kernel
theorem zd_MPacker_run_57 : decode zb_MPacker_run 57 = .ok (.iload_n 1, 1) := by decide +kernel
theorem zd_MPacker_run_58 : decode zb_MPacker_run 58 = .ok (.iload 5, 2) := by decide +kernel
theorem zd_MPacker_run_60 : decode zb_MPacker_run 60 = .ok (.if_icmp .lt 43, 3) := by decide +kernel
theorem zd_MPacker_run_63 : decode zb_MPacker_run 63 = .ok (.iload_n 1, 1) := by decide +kernel
theorem zd_MPacker_run_64 : decode zb_MPacker_run 64 = .ok (.iload 5, 2) := by decide +kernel
theorem zd_MPacker_run_66 : decode zb_MPacker_run 66 = .ok (.iconst 4, 1) := by decide +kernel
theorem zd_MPacker_run_67 : decode zb_MPacker_run 67 = .ok (.iload 7, 2) := by decide +kernel
theorem zd_MPacker_run_69 : decode zb_MPacker_run 69 = .ok (.imul, 1) := by decide +kernel
theorem zd_MPacker_run_70 : decode zb_MPacker_run 70 = .ok (.iadd, 1) := by decide +kernel
theorem zd_MPacker_run_71 : decode zb_MPacker_run 71 = .ok (.if_icmp .ge 32, 3) := by decide +kernel
theorem zd_MPacker_run_74 : decode zb_MPacker_run 74 = .ok (.sipush 261, 3) := by decide +kernel
theorem zd_MPacker_run_77 : decode zb_MPacker_run 77 = .ok (.iconst 4, 1) := by decide +kernel
theorem zd_MPacker_run_78 : decode zb_MPacker_run 78 = .ok (.iload 6, 2) := by decide +kernel
theorem zd_MPacker_run_80 : decode zb_MPacker_run 80 = .ok (.imul, 1) := by decide +kernel
theorem zd_MPacker_run_81 : decode zb_MPacker_run 81 = .ok (.iadd, 1) := by decide +kernel
theorem zd_MPacker_run_82 : decode zb_MPacker_run 82 = .ok (.iload_n 1, 1) := by decide +kernel
theorem zd_MPacker_run_83 : decode zb_MPacker_run 83 = .ok (.iload 5, 2) := by decide +kernel
theorem zd_MPacker_run_85 : decode zb_MPacker_run 85 = .ok (.isub, 1) := by decide +kernel
theorem zd_MPacker_run_86 : decode zb_MPacker_run 86 = .ok (.iload 7, 2) := by decide +kernel
theorem zd_MPacker_run_88 : decode zb_MPacker_run 88 = .ok (.idiv, 1) := by decide +kernel
theorem zd_MPacker_run_89 : decode zb_MPacker_run 89 = .ok (.iadd, 1) := by decide +kernel
theorem zd_MPacker_run_90 : decode zb_MPacker_run 90 = .ok (.istore_n 2, 1) := by decide +kernel
theorem zd_MPacker_run_91 : decode zb_MPacker_run 91 = .ok (.iload 6, 2) := by decide +kernel
theorem zd_MPacker_run_93 : decode zb_MPacker_run 93 = .ok (.istore_n 3, 1) := by decide +kernel
theorem zd_MPacker_run_94 : decode zb_MPacker_run 94 = .ok (.iload_n 1, 1) := by decide +kernel
theorem zd_MPacker_run_95 : decode zb_MPacker_run 95 = .ok (.iload 5, 2) := by decide +kernel
theorem zd_MPacker_run_97 : decode zb_MPacker_run 97 = .ok (.isub, 1) := by decide +kernel
theorem zd_MPacker_run_98 : decode zb_MPacker_run 98 = .ok (.iload 7, 2) := by decide +kernel
theorem zd_MPacker_run_100 : decode zb_MPacker_run 100 = .ok (.irem, 1) := by decide +kernel
theorem zd_MPacker_run_101 : decode zb_MPacker_run 101 = .ok (.istore 4, 2) := by decide +kernel
theorem zd_MPacker_run_103 : decode zb_MPacker_run 103 = .ok (.iload 5, 2) := by decide +kernel
theorem zd_MPacker_run_105 : decode zb_MPacker_run 105 = .ok (.iconst 4, 1) := by decide +kernel
theorem zd_MPacker_run_106 : decode zb_MPacker_run 106 = .ok (.iload 7, 2) := by decide +kernel
theorem zd_MPacker_run_108 : decode zb_MPacker_run 108 = .ok (.imul, 1) := by decide +kernel
theorem zd_MPacker_run_109 : decode zb_MPacker_run 109 = .ok (.iadd, 1) := by decide +kernel
theorem zd_MPacker_run_110 : decode zb_MPacker_run 110 = .ok (.istore 5, 2) := by decide +kernel
theorem zd_MPacker_run_112 : decode zb_MPacker_run 112 = .ok (.iinc 6 1, 3) := by decide +kernel
theorem zd_MPacker_run_115 : decode zb_MPacker_run 115 = .ok (.goto (-83), 3) := by decide +kernel
theorem zd_MPacker_run_118 : decode zb_MPacker_run 118 = .ok (.iload_n 2, 1) := by decide +kernel
theorem zd_MPacker_run_119 : decode zb_MPacker_run 119 = .ok (.sipush 280, 3) := by decide +kernel
theorem zd_MPacker_run_122 : decode zb_MPacker_run 122 = .ok (.if_icmp .ge 17, 3) := by decide +kernel
theorem zd_MPacker_run_125 : decode zb_MPacker_run 125 = .ok (.aload_n 0, 1) := by decide +kernel
theorem zd_MPacker_run_126 : decode zb_MPacker_run 126 = .ok (.iload_n 2, 1) := by decide +kernel
theorem zd_MPacker_run_127 : decode zb_MPacker_run 127 = .ok (.sipush 256, 3) := by decide +kernel
theorem zd_MPacker_run_130 : decode zb_MPacker_run 130 = .ok (.isub, 1) := by decide +kernel
theorem zd_MPacker_run_131 : decode zb_MPacker_run 131 = .ok (.bipush 7, 2) := by decide +kernel
theorem zd_MPacker_run_133 : decode zb_MPacker_run 133 = .ok (.invokevirtual 88, 3) := by decide +kernel
theorem zd_MPacker_run_136 : decode zb_MPacker_run 136 = .ok (.goto 18, 3) := by decide +kernel
theorem zd_MPacker_run_139 : decode zb_MPacker_run 139 = .ok (.aload_n 0, 1) := by decide +kernel
theorem zd_MPacker_run_140 : decode zb_MPacker_run 140 = .ok (.sipush 192, 3) := by decide +kernel
theorem zd_MPacker_run_143 : decode zb_MPacker_run 143 = .ok (.iload_n 2, 1) := by decide +kernel
theorem zd_MPacker_run_144 : decode zb_MPacker_run 144 = .ok (.iadd, 1) := by decide +kernel
theorem zd_MPacker_run_145 : decode zb_MPacker_run 145 = .ok (.sipush 280, 3) := by decide +kernel
theorem zd_MPacker_run_148 : decode zb_MPacker_run 148 = .ok (.isub, 1) := by decide +kernel
theorem zd_MPacker_run_149 : decode zb_MPacker_run 149 = .ok (.bipush 8, 2) := by decide +kernel
theorem zd_MPacker_run_151 : decode zb_MPacker_run 151 = .ok (.invokevirtual 88, 3) := by decide +kernel
theorem zd_MPacker_run_154 : decode zb_MPacker_run 154 = .ok (.aload_n 0, 1) := by decide +kernel
theorem zd_MPacker_run_155 : decode zb_MPacker_run 155 = .ok (.iload 4, 2) := by decide +kernel
theorem zd_MPacker_run_157 : decode zb_MPacker_run 157 = .ok (.iload_n 3, 1) := by decide +kernel
theorem zd_MPacker_run_158 : decode zb_MPacker_run 158 = .ok (.invokevirtual 92, 3) := by decide +kernel
theorem zd_MPacker_run_161 : decode zb_MPacker_run 161 = .ok (.return_, 1) := by decide +kernel
def L_MPacker_run_32 (sh : zSh) (fuel : Nat) (v0 : Nat) (v1 : Int32) (v2 : Int32) (v3 : Int32) (v4 : Int32) (v5 : Int32) (v6 : Int32) (mm : zMem) : Option (Nat × Int32 × Int32 × Int32 × Int32 × Int32 × Int32 × zMem) := match fuel with
  | 0 => none
  | fu + 1 => (if 5 < v6 then some (v0, v1, v2, v3, v4, v5, v6, mm) else (if v1 < 11 then some (v0, v1, v2, v3, v4, v5, v6, mm) else (if 258 ≤ v1 then some (v0, v1, v2, v3, v4, v5, v6, mm) else zoL (1 <<< (v6 &&& 31)) (fun x5 => (if v1 < v5 then zoL (v5 + (4 * x5)) (fun x7 => L_MPacker_run_32 sh fu v0 v1 v2 v3 v4 x7 (v6 + 1) mm) else (if (v5 + (4 * x5)) ≤ v1 then zoL (v5 + (4 * x5)) (fun x9 => L_MPacker_run_32 sh fu v0 v1 v2 v3 v4 x9 (v6 + 1) mm) else (if x5 = 0 then none else zoL ((261 + (4 * v6)) + ((v1 - v5) / x5)) (fun x11 => (if x5 = 0 then none else zoL ((v1 - v5) - (v1 - v5) / x5 * x5) (fun x13 => zoL (v5 + (4 * x5)) (fun x14 => L_MPacker_run_32 sh fu v0 v1 x11 v6 x13 x14 (v6 + 1) mm)))))))))))
set_option maxHeartbeats 4000000 in
set_option maxRecDepth 100000 in
theorem lp_MPacker_run_32 {p : Program} {l : Launch} {e : Env} {s : State} {m : MethodId} {args : Array Value} {below : List Frame} {meth : Method} {c : Code} {D : va_G} {tA : Nat → ClassId} {b n : Nat} {post : Option Value → zV → Nat → Prop} {sh : zSh} (F : zF p s m args meth c zb_MPacker_run 8 "OrreryBoxModel$Packer" D tA b) : ∀ (fuel : Nat) (v0 : Nat) (v1 : Int32) (v2 : Int32) (v3 : Int32) (v4 : Int32) (v5 : Int32) (v6 : Int32) (mm : zMem) (r : Nat × Int32 × Int32 × Int32 × Int32 × Int32 × Int32 × zMem), L_MPacker_run_32 sh fuel v0 v1 v2 v3 v4 v5 v6 mm = some r → (Z p l e { frames := 3, cells := 0, slots := 0, locals := 65 } s m args below meth c D b 8 (MQ below (zQ D b post) args s 0 0 (fun q => b ≤ q)) (zW tA b sh r.2.2.2.2.2.2.2) n 0 0 118 [(0, .ref (b + (r.1))), (1, .int (r.2.1)), (2, .int (r.2.2.1)), (3, .int (r.2.2.2.1)), (4, .int (r.2.2.2.2.1)), (5, .int (r.2.2.2.2.2.1)), (6, .int (r.2.2.2.2.2.2.1))] []) → Z p l e { frames := 3, cells := 0, slots := 0, locals := 65 } s m args below meth c D b 8 (MQ below (zQ D b post) args s 0 0 (fun q => b ≤ q)) (zW tA b sh mm) n 0 0 32 [(0, .ref (b + v0)), (1, .int v1), (2, .int v2), (3, .int v3), (4, .int v4), (5, .int v5), (6, .int v6)] [] := by
  intro fuel
  induction fuel with
  | zero =>
    intro v0 v1 v2 v3 v4 v5 v6 mm r h
    cases h
  | succ fu ih =>
    intro v0 v1 v2 v3 v4 v5 v6 mm r h hx0
    rw [L_MPacker_run_32] at h
    refine zr_iload F zd_MPacker_run_32 rfl ?_
    refine zr_iconstv (v := 5) F zd_MPacker_run_34 (by decide) ?_
    refine zr_pcn 35 rfl ?_
    refine zr_icmp_gt F 118 zd_MPacker_run_35 (by decide) (fun hb2 => ?_) (fun hb2 => ?_)
    ·
      rw [if_pos hb2] at h
      obtain rfl := Option.some.inj h
      refine zr_loc (L' := [(0, .ref (b + v0)), (1, .int v1), (2, .int v2), (3, .int v3), (4, .int v4), (5, .int v5), (6, .int v6)]) ⟨rfl, rfl, rfl, rfl, rfl, rfl, rfl, trivial⟩ ?_
      exact hx0 
    ·
      rw [if_neg hb2] at h
      refine zr_iload_n F zd_MPacker_run_38 rfl ?_
      refine zr_bipushv (v := 11) F zd_MPacker_run_39 (by decide) ?_
      refine zr_icmp_lt F 118 zd_MPacker_run_41 (by decide) (fun hb3 => ?_) (fun hb3 => ?_)
      ·
        rw [if_pos hb3] at h
        obtain rfl := Option.some.inj h
        refine zr_loc (L' := [(0, .ref (b + v0)), (1, .int v1), (2, .int v2), (3, .int v3), (4, .int v4), (5, .int v5), (6, .int v6)]) ⟨rfl, rfl, rfl, rfl, rfl, rfl, rfl, trivial⟩ ?_
        exact hx0 
      ·
        rw [if_neg hb3] at h
        refine zr_iload_n F zd_MPacker_run_44 rfl ?_
        refine zr_sipushv (v := 258) F zd_MPacker_run_45 (by decide) ?_
        refine zr_icmp_ge F 118 zd_MPacker_run_48 (by decide) (fun hb4 => ?_) (fun hb4 => ?_)
        ·
          rw [if_pos hb4] at h
          obtain rfl := Option.some.inj h
          refine zr_loc (L' := [(0, .ref (b + v0)), (1, .int v1), (2, .int v2), (3, .int v3), (4, .int v4), (5, .int v5), (6, .int v6)]) ⟨rfl, rfl, rfl, rfl, rfl, rfl, rfl, trivial⟩ ?_
          exact hx0 
        ·
          rw [if_neg hb4] at h
          refine zr_iconstv (v := 1) F zd_MPacker_run_51 (by decide) ?_
          refine zr_pcn 52 rfl ?_
          refine zr_iload F zd_MPacker_run_52 rfl ?_
          refine zr_ishl F zd_MPacker_run_54 ?_
          obtain ⟨x5, ex5, h⟩ := zoL_s h
          rw [← ex5]
          refine zr_istore F zd_MPacker_run_55 (by decide) ?_
          refine zr_iload_n F zd_MPacker_run_57 rfl ?_
          refine zr_iload F zd_MPacker_run_58 rfl ?_
          refine zr_icmp_lt F 103 zd_MPacker_run_60 (by decide) (fun hb6 => ?_) (fun hb6 => ?_)
          ·
            rw [if_pos hb6] at h
            refine zr_iload F zd_MPacker_run_103 rfl ?_
            refine zr_iconstv (v := 4) F zd_MPacker_run_105 (by decide) ?_
            refine zr_pcn 106 rfl ?_
            refine zr_iload F zd_MPacker_run_106 rfl ?_
            refine zr_imul F zd_MPacker_run_108 ?_
            refine zr_iadd F zd_MPacker_run_109 ?_
            obtain ⟨x7, ex7, h⟩ := zoL_s h
            rw [← ex7]
            refine zr_istore F zd_MPacker_run_110 (by decide) ?_
            refine zr_iinc (v := (v6 + 1)) F zd_MPacker_run_112 rfl rfl (by decide) ?_
            refine zr_goto F 32 zd_MPacker_run_115 (by decide) ?_
            refine zr_loc (L' := [(0, .ref (b + v0)), (1, .int v1), (2, .int v2), (3, .int v3), (4, .int v4), (5, .int x7), (6, .int (v6 + 1))]) ⟨rfl, rfl, rfl, rfl, rfl, rfl, rfl, trivial⟩ ?_
            exact ih _ _ _ _ _ _ _ _ _ h hx0
          ·
            rw [if_neg hb6] at h
            refine zr_iload_n F zd_MPacker_run_63 rfl ?_
            refine zr_iload F zd_MPacker_run_64 rfl ?_
            refine zr_pcn 66 rfl ?_
            refine zr_iconstv (v := 4) F zd_MPacker_run_66 (by decide) ?_
            refine zr_iload F zd_MPacker_run_67 rfl ?_
            refine zr_imul F zd_MPacker_run_69 ?_
            refine zr_iadd F zd_MPacker_run_70 ?_
            refine zr_icmp_ge F 103 zd_MPacker_run_71 (by decide) (fun hb8 => ?_) (fun hb8 => ?_)
            ·
              rw [if_pos hb8] at h
              refine zr_iload F zd_MPacker_run_103 rfl ?_
              refine zr_iconstv (v := 4) F zd_MPacker_run_105 (by decide) ?_
              refine zr_iload F zd_MPacker_run_106 rfl ?_
              refine zr_pcn 108 rfl ?_
              refine zr_imul F zd_MPacker_run_108 ?_
              refine zr_iadd F zd_MPacker_run_109 ?_
              obtain ⟨x9, ex9, h⟩ := zoL_s h
              rw [← ex9]
              refine zr_istore F zd_MPacker_run_110 (by decide) ?_
              refine zr_iinc (v := (v6 + 1)) F zd_MPacker_run_112 rfl rfl (by decide) ?_
              refine zr_goto F 32 zd_MPacker_run_115 (by decide) ?_
              refine zr_loc (L' := [(0, .ref (b + v0)), (1, .int v1), (2, .int v2), (3, .int v3), (4, .int v4), (5, .int x9), (6, .int (v6 + 1))]) ⟨rfl, rfl, rfl, rfl, rfl, rfl, rfl, trivial⟩ ?_
              exact ih _ _ _ _ _ _ _ _ _ h hx0
            ·
              rw [if_neg hb8] at h
              refine zr_sipushv (v := 261) F zd_MPacker_run_74 (by decide) ?_
              refine zr_iconstv (v := 4) F zd_MPacker_run_77 (by decide) ?_
              refine zr_iload F zd_MPacker_run_78 rfl ?_
              refine zr_pcn 80 rfl ?_
              refine zr_imul F zd_MPacker_run_80 ?_
              refine zr_iadd F zd_MPacker_run_81 ?_
              refine zr_iload_n F zd_MPacker_run_82 rfl ?_
              refine zr_iload F zd_MPacker_run_83 rfl ?_
              refine zr_isub F zd_MPacker_run_85 ?_
              refine zr_iload F zd_MPacker_run_86 rfl ?_
              obtain ⟨hn10, h⟩ := zoI_s h
              refine zr_idiv F zd_MPacker_run_88 hn10 ?_
              refine zr_iadd F zd_MPacker_run_89 ?_
              refine zr_pcn 90 rfl ?_
              obtain ⟨x11, ex11, h⟩ := zoL_s h
              rw [← ex11]
              refine zr_istore_n F zd_MPacker_run_90 (by decide) ?_
              refine zr_iload F zd_MPacker_run_91 rfl ?_
              refine zr_istore_n F zd_MPacker_run_93 (by decide) ?_
              refine zr_iload_n F zd_MPacker_run_94 rfl ?_
              refine zr_iload F zd_MPacker_run_95 rfl ?_
              refine zr_isub F zd_MPacker_run_97 ?_
              refine zr_iload F zd_MPacker_run_98 rfl ?_
              obtain ⟨hn12, h⟩ := zoI_s h
              refine zr_irem F zd_MPacker_run_100 hn12 ?_
              refine zr_pcn 101 rfl ?_
              obtain ⟨x13, ex13, h⟩ := zoL_s h
              rw [← ex13]
              refine zr_istore F zd_MPacker_run_101 (by decide) ?_
              refine zr_iload F zd_MPacker_run_103 rfl ?_
              refine zr_iconstv (v := 4) F zd_MPacker_run_105 (by decide) ?_
              refine zr_iload F zd_MPacker_run_106 rfl ?_
              refine zr_imul F zd_MPacker_run_108 ?_
              refine zr_iadd F zd_MPacker_run_109 ?_
              obtain ⟨x14, ex14, h⟩ := zoL_s h
              rw [← ex14]
              refine zr_istore F zd_MPacker_run_110 (by decide) ?_
              refine zr_iinc (v := (v6 + 1)) F zd_MPacker_run_112 rfl rfl (by decide) ?_
              refine zr_pcn 115 rfl ?_
              refine zr_goto F 32 zd_MPacker_run_115 (by decide) ?_
              refine zr_loc (L' := [(0, .ref (b + v0)), (1, .int v1), (2, .int x11), (3, .int v6), (4, .int x13), (5, .int x14), (6, .int (v6 + 1))]) ⟨rfl, rfl, rfl, rfl, rfl, rfl, rfl, trivial⟩ ?_
              exact ih _ _ _ _ _ _ _ _ _ h hx0
theorem zw_2252 : (Jvm.Cond.methodLink "OrreryBoxModel$Packer" (92 : Nat) ({ cls := "OrreryBoxModel$Packer", name := "lowFirst", desc := "(II)V" } : Jvm.MethodName)) ∈ gw := gw_t 2252 (by decide +kernel) rfl
theorem zw_2254 : (Jvm.Cond.instanceMethod ({ cls := "OrreryBoxModel$Packer", name := "lowFirst", desc := "(II)V" } : Jvm.MethodName)) ∈ gw := gw_t 2254 (by decide +kernel) rfl
theorem zv_132 : (Jvm.Cond.selects "OrreryBoxModel$Packer" (⟨"OrreryBoxModel$Packer", "lowFirst", "(II)V"⟩ : MethodName) ⟨"OrreryBoxModel$Packer", "lowFirst", "(II)V"⟩) ∈ gw := gw_s 132 (by decide +kernel) rfl
theorem zs_MPacker_92 : zwV "OrreryBoxModel$Packer" 92 "OrreryBoxModel$Packer" zy_MPacker_lowFirst zb_MPacker_lowFirst 4 none := ⟨zw_2252, zw_2254, zv_132, zw_16, zc_MPacker_lowFirst⟩
def F_MPacker_run (sh : zSh) (mm : zMem) (o : Nat) (x0_ : Int32) : Option zMem := (if 11 ≤ x0_ then Option.bind (L_MPacker_run_32 sh zfuel o x0_ 285 0 0 11 1 mm) (fun q15 => (if 280 ≤ q15.2.2.1 then zoS (sh (q15.1)) 12 (fun le18 => Option.bind (F_MPacker_highFirst sh (q15.2.2.2.2.2.2.2) (q15.1) ((192 + q15.2.2.1) - 280) 8) (fun p19 => zoS (sh (q15.1)) 12 (fun le21 => Option.bind (F_MPacker_lowFirst sh p19 (q15.1) (q15.2.2.2.2.1) (q15.2.2.2.1)) (fun p22 => some p22)))) else zoS (sh (q15.1)) 12 (fun le24 => Option.bind (F_MPacker_highFirst sh (q15.2.2.2.2.2.2.2) (q15.1) (q15.2.2.1 - 256) 7) (fun p25 => zoS (sh (q15.1)) 12 (fun le27 => Option.bind (F_MPacker_lowFirst sh p25 (q15.1) (q15.2.2.2.2.1) (q15.2.2.2.1)) (fun p28 => some p28)))))) else zoL ((257 + x0_) - 3) (fun x29 => Option.bind (L_MPacker_run_32 sh zfuel o x0_ x29 0 0 11 1 mm) (fun q30 => (if 280 ≤ q30.2.2.1 then zoS (sh (q30.1)) 12 (fun le33 => Option.bind (F_MPacker_highFirst sh (q30.2.2.2.2.2.2.2) (q30.1) ((192 + q30.2.2.1) - 280) 8) (fun p34 => zoS (sh (q30.1)) 12 (fun le36 => Option.bind (F_MPacker_lowFirst sh p34 (q30.1) (q30.2.2.2.2.1) (q30.2.2.2.1)) (fun p37 => some p37)))) else zoS (sh (q30.1)) 12 (fun le39 => Option.bind (F_MPacker_highFirst sh (q30.2.2.2.2.2.2.2) (q30.1) (q30.2.2.1 - 256) 7) (fun p40 => zoS (sh (q30.1)) 12 (fun le42 => Option.bind (F_MPacker_lowFirst sh p40 (q30.1) (q30.2.2.2.2.1) (q30.2.2.2.1)) (fun p43 => some p43))))))))
set_option maxHeartbeats 4000000 in
set_option maxRecDepth 100000 in
theorem k_MPacker_run (l : Launch) (D : va_G) (tA : Nat → ClassId) (b : Nat) (sh : zSh) (n : Nat) {mm : zMem} {o : Nat} {x0_ : Int32} {r : zMem} (h : F_MPacker_run sh mm o x0_ = some r) : zM l D tA b zy_MPacker_run zb_MPacker_run 8 none 3 65 0 0 [.ref (b + o), .int x0_] (zW tA b sh mm) n (zE none (zW tA b sh r) n) := by
  unfold F_MPacker_run at h
  refine zM_of (own := "OrreryBoxModel$Packer") (plainFor_of_name (by decide)) rfl (Nat.le_of_ble_eq_true rfl) (fun p e s m below meth c F hr hin hH => ?_)
  refine zr_iload_n F zd_MPacker_run_0 rfl ?_
  refine zr_bipushv (v := 11) F zd_MPacker_run_1 (by decide) ?_
  refine zr_icmp_ge F 16 zd_MPacker_run_3 (by decide) (fun hb1 => ?_) (fun hb1 => ?_)
  ·
    rw [if_pos hb1] at h
    refine zr_sipushv (v := 285) F zd_MPacker_run_16 (by decide) ?_
    refine zr_istore_n F zd_MPacker_run_19 (by decide) ?_
    refine zr_iconstv (v := 0) F zd_MPacker_run_20 (by decide) ?_
    refine zr_istore_n F zd_MPacker_run_21 (by decide) ?_
    refine zr_pcn 22 rfl ?_
    refine zr_iconstv (v := 0) F zd_MPacker_run_22 (by decide) ?_
    refine zr_istore F zd_MPacker_run_23 (by decide) ?_
    refine zr_bipushv (v := 11) F zd_MPacker_run_25 (by decide) ?_
    refine zr_istore F zd_MPacker_run_27 (by decide) ?_
    refine zr_iconstv (v := 1) F zd_MPacker_run_29 (by decide) ?_
    refine zr_istore F zd_MPacker_run_30 (by decide) ?_
    obtain ⟨q15, eq15, h⟩ := zoB_s h
    refine zr_loc (L' := [(0, .ref (b + o)), (1, .int x0_), (2, .int 285), (3, .int 0), (4, .int 0), (5, .int 11), (6, .int 1)]) ⟨rfl, rfl, rfl, rfl, rfl, rfl, rfl, trivial⟩ ?_
    refine lp_MPacker_run_32 F _ _ _ _ _ _ _ _ _ _ eq15 ?_
    ·
      refine zr_iload_n F zd_MPacker_run_118 rfl ?_
      refine zr_sipushv (v := 280) F zd_MPacker_run_119 (by decide) ?_
      refine zr_icmp_ge F 139 zd_MPacker_run_122 (by decide) (fun hb16 => ?_) (fun hb16 => ?_)
      ·
        rw [if_pos hb16] at h
        refine zr_aload_n F zd_MPacker_run_139 rfl ?_
        refine zr_sipushv (v := 192) F zd_MPacker_run_140 (by decide) ?_
        refine zr_iload_n F zd_MPacker_run_143 rfl ?_
        refine zr_iadd F zd_MPacker_run_144 ?_
        refine zr_pcn 145 rfl ?_
        refine zr_sipushv (v := 280) F zd_MPacker_run_145 (by decide) ?_
        refine zr_isub F zd_MPacker_run_148 ?_
        refine zr_bipushv (v := 8) F zd_MPacker_run_149 (by decide) ?_
        obtain ⟨le18, hs17, h⟩ := zoS_s h
        obtain ⟨p19, ep19, h⟩ := zoB_s h
        refine zr_callV0 F (k_MPacker_highFirst l D tA b sh _ ep19) zd_MPacker_run_151 (zW_o hs17 (by decide)) rfl zs_MPacker_88 rfl zq_MPacker_highFirst rfl rfl ⟨(Nat.le_of_ble_eq_true rfl), (Nat.le_of_ble_eq_true rfl)⟩ (Nat.le_of_ble_eq_true rfl) ⟨(Nat.le_of_ble_eq_true rfl), (Nat.le_of_ble_eq_true rfl)⟩ ?_
        refine zr_aload_n F zd_MPacker_run_154 rfl ?_
        refine zr_iload F zd_MPacker_run_155 rfl ?_
        refine zr_iload_n F zd_MPacker_run_157 rfl ?_
        obtain ⟨le21, hs20, h⟩ := zoS_s h
        obtain ⟨p22, ep22, h⟩ := zoB_s h
        refine zr_callV0 F (k_MPacker_lowFirst l D tA b sh _ ep22) zd_MPacker_run_158 (zW_o hs20 (by decide)) rfl zs_MPacker_92 rfl zq_MPacker_lowFirst rfl rfl ⟨(Nat.le_of_ble_eq_true rfl), (Nat.le_of_ble_eq_true rfl)⟩ (Nat.le_of_ble_eq_true rfl) ⟨(Nat.le_of_ble_eq_true rfl), (Nat.le_of_ble_eq_true rfl)⟩ ?_
        refine zr_pcn 161 rfl ?_
        obtain rfl := Option.some.inj h
        exact zr_vret F hr zd_MPacker_run_161 (Nat.le_of_ble_eq_true rfl) (Nat.le_of_ble_eq_true rfl) ⟨rfl, rfl, rfl⟩
      ·
        rw [if_neg hb16] at h
        refine zr_aload_n F zd_MPacker_run_125 rfl ?_
        refine zr_iload_n F zd_MPacker_run_126 rfl ?_
        refine zr_sipushv (v := 256) F zd_MPacker_run_127 (by decide) ?_
        refine zr_isub F zd_MPacker_run_130 ?_
        refine zr_bipushv (v := 7) F zd_MPacker_run_131 (by decide) ?_
        obtain ⟨le24, hs23, h⟩ := zoS_s h
        obtain ⟨p25, ep25, h⟩ := zoB_s h
        refine zr_callV0 F (k_MPacker_highFirst l D tA b sh _ ep25) zd_MPacker_run_133 (zW_o hs23 (by decide)) rfl zs_MPacker_88 rfl zq_MPacker_highFirst rfl rfl ⟨(Nat.le_of_ble_eq_true rfl), (Nat.le_of_ble_eq_true rfl)⟩ (Nat.le_of_ble_eq_true rfl) ⟨(Nat.le_of_ble_eq_true rfl), (Nat.le_of_ble_eq_true rfl)⟩ ?_
        refine zr_goto F 154 zd_MPacker_run_136 (by decide) ?_
        refine zr_pcn 154 rfl ?_
        refine zr_aload_n F zd_MPacker_run_154 rfl ?_
        refine zr_iload F zd_MPacker_run_155 rfl ?_
        refine zr_iload_n F zd_MPacker_run_157 rfl ?_
        obtain ⟨le27, hs26, h⟩ := zoS_s h
        obtain ⟨p28, ep28, h⟩ := zoB_s h
        refine zr_callV0 F (k_MPacker_lowFirst l D tA b sh _ ep28) zd_MPacker_run_158 (zW_o hs26 (by decide)) rfl zs_MPacker_92 rfl zq_MPacker_lowFirst rfl rfl ⟨(Nat.le_of_ble_eq_true rfl), (Nat.le_of_ble_eq_true rfl)⟩ (Nat.le_of_ble_eq_true rfl) ⟨(Nat.le_of_ble_eq_true rfl), (Nat.le_of_ble_eq_true rfl)⟩ ?_
        obtain rfl := Option.some.inj h
        exact zr_vret F hr zd_MPacker_run_161 (Nat.le_of_ble_eq_true rfl) (Nat.le_of_ble_eq_true rfl) ⟨rfl, rfl, rfl⟩
  ·
    rw [if_neg hb1] at h
    refine zr_sipushv (v := 257) F zd_MPacker_run_6 (by decide) ?_
    refine zr_iload_n F zd_MPacker_run_9 rfl ?_
    refine zr_iadd F zd_MPacker_run_10 ?_
    refine zr_pcn 11 rfl ?_
    refine zr_iconstv (v := 3) F zd_MPacker_run_11 (by decide) ?_
    refine zr_isub F zd_MPacker_run_12 ?_
    refine zr_goto F 19 zd_MPacker_run_13 (by decide) ?_
    obtain ⟨x29, ex29, h⟩ := zoL_s h
    rw [← ex29]
    refine zr_istore_n F zd_MPacker_run_19 (by decide) ?_
    refine zr_iconstv (v := 0) F zd_MPacker_run_20 (by decide) ?_
    refine zr_istore_n F zd_MPacker_run_21 (by decide) ?_
    refine zr_iconstv (v := 0) F zd_MPacker_run_22 (by decide) ?_
    refine zr_istore F zd_MPacker_run_23 (by decide) ?_
    refine zr_pcn 25 rfl ?_
    refine zr_bipushv (v := 11) F zd_MPacker_run_25 (by decide) ?_
    refine zr_istore F zd_MPacker_run_27 (by decide) ?_
    refine zr_iconstv (v := 1) F zd_MPacker_run_29 (by decide) ?_
    refine zr_istore F zd_MPacker_run_30 (by decide) ?_
    obtain ⟨q30, eq30, h⟩ := zoB_s h
    refine zr_loc (L' := [(0, .ref (b + o)), (1, .int x0_), (2, .int x29), (3, .int 0), (4, .int 0), (5, .int 11), (6, .int 1)]) ⟨rfl, rfl, rfl, rfl, rfl, rfl, rfl, trivial⟩ ?_
    refine lp_MPacker_run_32 F _ _ _ _ _ _ _ _ _ _ eq30 ?_
    ·
      refine zr_iload_n F zd_MPacker_run_118 rfl ?_
      refine zr_sipushv (v := 280) F zd_MPacker_run_119 (by decide) ?_
      refine zr_icmp_ge F 139 zd_MPacker_run_122 (by decide) (fun hb31 => ?_) (fun hb31 => ?_)
      ·
        rw [if_pos hb31] at h
        refine zr_aload_n F zd_MPacker_run_139 rfl ?_
        refine zr_pcn 140 rfl ?_
        refine zr_sipushv (v := 192) F zd_MPacker_run_140 (by decide) ?_
        refine zr_iload_n F zd_MPacker_run_143 rfl ?_
        refine zr_iadd F zd_MPacker_run_144 ?_
        refine zr_sipushv (v := 280) F zd_MPacker_run_145 (by decide) ?_
        refine zr_isub F zd_MPacker_run_148 ?_
        refine zr_bipushv (v := 8) F zd_MPacker_run_149 (by decide) ?_
        obtain ⟨le33, hs32, h⟩ := zoS_s h
        obtain ⟨p34, ep34, h⟩ := zoB_s h
        refine zr_callV0 F (k_MPacker_highFirst l D tA b sh _ ep34) zd_MPacker_run_151 (zW_o hs32 (by decide)) rfl zs_MPacker_88 rfl zq_MPacker_highFirst rfl rfl ⟨(Nat.le_of_ble_eq_true rfl), (Nat.le_of_ble_eq_true rfl)⟩ (Nat.le_of_ble_eq_true rfl) ⟨(Nat.le_of_ble_eq_true rfl), (Nat.le_of_ble_eq_true rfl)⟩ ?_
        refine zr_aload_n F zd_MPacker_run_154 rfl ?_
        refine zr_pcn 155 rfl ?_
        refine zr_iload F zd_MPacker_run_155 rfl ?_
        refine zr_iload_n F zd_MPacker_run_157 rfl ?_
        obtain ⟨le36, hs35, h⟩ := zoS_s h
        obtain ⟨p37, ep37, h⟩ := zoB_s h
        refine zr_callV0 F (k_MPacker_lowFirst l D tA b sh _ ep37) zd_MPacker_run_158 (zW_o hs35 (by decide)) rfl zs_MPacker_92 rfl zq_MPacker_lowFirst rfl rfl ⟨(Nat.le_of_ble_eq_true rfl), (Nat.le_of_ble_eq_true rfl)⟩ (Nat.le_of_ble_eq_true rfl) ⟨(Nat.le_of_ble_eq_true rfl), (Nat.le_of_ble_eq_true rfl)⟩ ?_
        obtain rfl := Option.some.inj h
        exact zr_vret F hr zd_MPacker_run_161 (Nat.le_of_ble_eq_true rfl) (Nat.le_of_ble_eq_true rfl) ⟨rfl, rfl, rfl⟩
      ·
        rw [if_neg hb31] at h
        refine zr_aload_n F zd_MPacker_run_125 rfl ?_
        refine zr_iload_n F zd_MPacker_run_126 rfl ?_
        refine zr_sipushv (v := 256) F zd_MPacker_run_127 (by decide) ?_
        refine zr_isub F zd_MPacker_run_130 ?_
        refine zr_pcn 131 rfl ?_
        refine zr_bipushv (v := 7) F zd_MPacker_run_131 (by decide) ?_
        obtain ⟨le39, hs38, h⟩ := zoS_s h
        obtain ⟨p40, ep40, h⟩ := zoB_s h
        refine zr_callV0 F (k_MPacker_highFirst l D tA b sh _ ep40) zd_MPacker_run_133 (zW_o hs38 (by decide)) rfl zs_MPacker_88 rfl zq_MPacker_highFirst rfl rfl ⟨(Nat.le_of_ble_eq_true rfl), (Nat.le_of_ble_eq_true rfl)⟩ (Nat.le_of_ble_eq_true rfl) ⟨(Nat.le_of_ble_eq_true rfl), (Nat.le_of_ble_eq_true rfl)⟩ ?_
        refine zr_goto F 154 zd_MPacker_run_136 (by decide) ?_
        refine zr_aload_n F zd_MPacker_run_154 rfl ?_
        refine zr_iload F zd_MPacker_run_155 rfl ?_
        refine zr_iload_n F zd_MPacker_run_157 rfl ?_
        obtain ⟨le42, hs41, h⟩ := zoS_s h
        obtain ⟨p43, ep43, h⟩ := zoB_s h
        refine zr_callV0 F (k_MPacker_lowFirst l D tA b sh _ ep43) zd_MPacker_run_158 (zW_o hs41 (by decide)) rfl zs_MPacker_92 rfl zq_MPacker_lowFirst rfl rfl ⟨(Nat.le_of_ble_eq_true rfl), (Nat.le_of_ble_eq_true rfl)⟩ (Nat.le_of_ble_eq_true rfl) ⟨(Nat.le_of_ble_eq_true rfl), (Nat.le_of_ble_eq_true rfl)⟩ ?_
        obtain rfl := Option.some.inj h
        exact zr_vret F hr zd_MPacker_run_161 (Nat.le_of_ble_eq_true rfl) (Nat.le_of_ble_eq_true rfl) ⟨rfl, rfl, rfl⟩
abbrev zb_MPacker_distance : ByteArray := prog_15_method_18_code
def zy_MPacker_distance : MethodName := ⟨"OrreryBoxModel$Packer", "distance", "(I)V"⟩
theorem zc_MPacker_distance : Cond.code zy_MPacker_distance zb_MPacker_distance 8 none ∈ gw := gw_t 2259 (by decide +kernel) rfl
theorem zq_MPacker_distance : zy_MPacker_distance.cls ≠ "java/lang/invoke/MethodHandle" ∧ zy_MPacker_distance.cls ≠ "java/lang/invoke/VarHandle" ∧ (parseMethodDescriptor zy_MPacker_distance.desc).map (fun d => d.parameters.length) = some 1 := by decide +kernel
theorem zd_MPacker_distance_0 : decode zb_MPacker_distance 0 = .ok (.iload_n 1, 1) := by decide +kernel
theorem zd_MPacker_distance_1 : decode zb_MPacker_distance 1 = .ok (.iconst 1, 1) := by decide +kernel
theorem zd_MPacker_distance_2 : decode zb_MPacker_distance 2 = .ok (.isub, 1) := by decide +kernel
theorem zd_MPacker_distance_3 : decode zb_MPacker_distance 3 = .ok (.istore_n 2, 1) := by decide +kernel
theorem zd_MPacker_distance_4 : decode zb_MPacker_distance 4 = .ok (.iconst 0, 1) := by decide +kernel
theorem zd_MPacker_distance_5 : decode zb_MPacker_distance 5 = .ok (.istore_n 3, 1) := by decide +kernel
theorem zd_MPacker_distance_6 : decode zb_MPacker_distance 6 = .ok (.iconst 0, 1) := by decide +kernel
theorem zd_MPacker_distance_7 : decode zb_MPacker_distance 7 = .ok (.istore 4, 2) := by decide +kernel
theorem zd_MPacker_distance_9 : decode zb_MPacker_distance 9 = .ok (.iconst 5, 1) := by decide +kernel
theorem zd_MPacker_distance_10 : decode zb_MPacker_distance 10 = .ok (.istore 5, 2) := by decide +kernel
theorem zd_MPacker_distance_12 : decode zb_MPacker_distance 12 = .ok (.iconst 1, 1) := by decide +kernel
theorem zd_MPacker_distance_13 : decode zb_MPacker_distance 13 = .ok (.istore 6, 2) := by decide +kernel
theorem zd_MPacker_distance_15 : decode zb_MPacker_distance 15 = .ok (.iload 6, 2) := by decide +kernel
theorem zd_MPacker_distance_17 : decode zb_MPacker_distance 17 = .ok (.bipush 13, 2) := by decide +kernel
theorem zd_MPacker_distance_19 : decode zb_MPacker_distance 19 = .ok (.if_icmp .gt 73, 3) := by decide +kernel
theorem zd_MPacker_distance_22 : decode zb_MPacker_distance 22 = .ok (.iload_n 1, 1) := by decide +kernel
theorem zd_MPacker_distance_23 : decode zb_MPacker_distance 23 = .ok (.iconst 5, 1) := by decide +kernel
theorem zd_MPacker_distance_24 : decode zb_MPacker_distance 24 = .ok (.if_icmp .lt 68, 3) := by decide +kernel
theorem zd_MPacker_distance_27 : decode zb_MPacker_distance 27 = .ok (.iconst 1, 1) := by decide +kernel
theorem zd_MPacker_distance_28 : decode zb_MPacker_distance 28 = .ok (.iload 6, 2) := by decide +kernel
theorem zd_MPacker_distance_30 : decode zb_MPacker_distance 30 = .ok (.ishl, 1) := by decide +kernel
theorem zd_MPacker_distance_31 : decode zb_MPacker_distance 31 = .ok (.istore 7, 2) := by decide +kernel
theorem zd_MPacker_distance_33 : decode zb_MPacker_distance 33 = .ok (.iload_n 1, 1) := by decide +kernel
theorem zd_MPacker_distance_34 : decode zb_MPacker_distance 34 = .ok (.iload 5, 2) := by decide +kernel
theorem zd_MPacker_distance_36 : decode zb_MPacker_distance 36 = .ok (.if_icmp .lt 41, 3) := by decide +kernel
theorem zd_MPacker_distance_39 : decode zb_MPacker_distance 39 = .ok (.iload_n 1, 1) := by decide +kernel
theorem zd_MPacker_distance_40 : decode zb_MPacker_distance 40 = .ok (.iload 5, 2) := by decide +kernel
theorem zd_MPacker_distance_42 : decode zb_MPacker_distance 42 = .ok (.iconst 2, 1) := by decide +kernel
theorem zd_MPacker_distance_43 : decode zb_MPacker_distance 43 = .ok (.iload 7, 2) := by decide +kernel
theorem zd_MPacker_distance_45 : decode zb_MPacker_distance 45 = .ok (.imul, 1) := by decide +kernel
theorem zd_MPacker_distance_46 : decode zb_MPacker_distance 46 = .ok (.iadd, 1) := by decide +kernel
theorem zd_MPacker_distance_47 : decode zb_MPacker_distance 47 = .ok (.if_icmp .ge 30, 3) := by decide +kernel
theorem zd_MPacker_distance_50 : decode zb_MPacker_distance 50 = .ok (.iconst 2, 1) := by decide +kernel
theorem zd_MPacker_distance_51 : decode zb_MPacker_distance 51 = .ok (.iconst 2, 1) := by decide +kernel
theorem zd_MPacker_distance_52 : decode zb_MPacker_distance 52 = .ok (.iload 6, 2) := by decide +kernel
theorem zd_MPacker_distance_54 : decode zb_MPacker_distance 54 = .ok (.imul, 1) := by decide +kernel
theorem zd_MPacker_distance_55 : decode zb_MPacker_distance 55 = .ok (.iadd, 1) := by decide +kernel
theorem zd_MPacker_distance_56 : decode zb_MPacker_distance 56 = .ok (.iload_n 1, 1) := by decide +kernel
theorem zd_MPacker_distance_57 : decode zb_MPacker_distance 57 = .ok (.iload 5, 2) := by decide +kernel
theorem zd_MPacker_distance_59 : decode zb_MPacker_distance 59 = .ok (.isub, 1) := by decide +kernel
theorem zd_MPacker_distance_60 : decode zb_MPacker_distance 60 = .ok (.iload 7, 2) := by decide +kernel
theorem zd_MPacker_distance_62 : decode zb_MPacker_distance 62 = .ok (.idiv, 1) := by decide +kernel
theorem zd_MPacker_distance_63 : decode zb_MPacker_distance 63 = .ok (.iadd, 1) := by decide +kernel
theorem zd_MPacker_distance_64 : decode zb_MPacker_distance 64 = .ok (.istore_n 2, 1) := by decide +kernel
theorem zd_MPacker_distance_65 : decode zb_MPacker_distance 65 = .ok (.iload 6, 2) := by decide +kernel
theorem zd_MPacker_distance_67 : decode zb_MPacker_distance 67 = .ok (.istore_n 3, 1) := by decide +kernel
theorem zd_MPacker_distance_68 : decode zb_MPacker_distance 68 = .ok (.iload_n 1, 1) := by decide +kernel
theorem zd_MPacker_distance_69 : decode zb_MPacker_distance 69 = .ok (.iload 5, 2) := by decide +kernel
theorem zd_MPacker_distance_71 : decode zb_MPacker_distance 71 = .ok (.isub, 1) := by decide +kernel
theorem zd_MPacker_distance_72 : decode zb_MPacker_distance 72 = .ok (.iload 7, 2) := by decide +kernel
theorem zd_MPacker_distance_74 : decode zb_MPacker_distance 74 = .ok (.irem, 1) := by decide +kernel
theorem zd_MPacker_distance_75 : decode zb_MPacker_distance 75 = .ok (.istore 4, 2) := by decide +kernel
theorem zd_MPacker_distance_77 : decode zb_MPacker_distance 77 = .ok (.iload 5, 2) := by decide +kernel
theorem zd_MPacker_distance_79 : decode zb_MPacker_distance 79 = .ok (.iconst 2, 1) := by decide +kernel
theorem zd_MPacker_distance_80 : decode zb_MPacker_distance 80 = .ok (.iload 7, 2) := by decide +kernel
theorem zd_MPacker_distance_82 : decode zb_MPacker_distance 82 = .ok (.imul, 1) := by decide +kernel
theorem zd_MPacker_distance_83 : decode zb_MPacker_distance 83 = .ok (.iadd, 1) := by decide +kernel
theorem zd_MPacker_distance_84 : decode zb_MPacker_distance 84 = .ok (.istore 5, 2) := by decide +kernel
theorem zd_MPacker_distance_86 : decode zb_MPacker_distance 86 = .ok (.iinc 6 1, 3) := by decide +kernel
theorem zd_MPacker_distance_89 : decode zb_MPacker_distance 89 = .ok (.goto (-74), 3) := by decide +kernel
theorem zd_MPacker_distance_92 : decode zb_MPacker_distance 92 = .ok (.aload_n 0, 1) := by decide +kernel
theorem zd_MPacker_distance_93 : decode zb_MPacker_distance 93 = .ok (.iload_n 2, 1) := by decide +kernel
theorem zd_MPacker_distance_94 : decode zb_MPacker_distance 94 = .ok (.iconst 5, 1) := by decide +kernel
theorem zd_MPacker_distance_95 : decode zb_MPacker_distance 95 = .ok (.invokevirtual 88, 3) := by decide +kernel
theorem zd_MPacker_distance_98 : decode zb_MPacker_distance 98 = .ok (.aload_n 0, 1) := by decide +kernel
theorem zd_MPacker_distance_99 : decode zb_MPacker_distance 99 = .ok (.iload 4, 2) := by decide +kernel
theorem zd_MPacker_distance_101 : decode zb_MPacker_distance 101 = .ok (.iload_n 3, 1) := by decide +kernel
theorem zd_MPacker_distance_102 : decode zb_MPacker_distance 102 = .ok (.invokevirtual 92, 3) := by decide +kernel
theorem zd_MPacker_distance_105 : decode zb_MPacker_distance 105 = .ok (.return_, 1) := by decide +kernel
def L_MPacker_distance_15 (sh : zSh) (fuel : Nat) (v0 : Nat) (v1 : Int32) (v2 : Int32) (v3 : Int32) (v4 : Int32) (v5 : Int32) (v6 : Int32) (mm : zMem) : Option (Nat × Int32 × Int32 × Int32 × Int32 × Int32 × Int32 × zMem) := match fuel with
  | 0 => none
  | fu + 1 => (if 13 < v6 then some (v0, v1, v2, v3, v4, v5, v6, mm) else (if v1 < 5 then some (v0, v1, v2, v3, v4, v5, v6, mm) else zoL (1 <<< (v6 &&& 31)) (fun x4 => (if v1 < v5 then zoL (v5 + (2 * x4)) (fun x6 => L_MPacker_distance_15 sh fu v0 v1 v2 v3 v4 x6 (v6 + 1) mm) else (if (v5 + (2 * x4)) ≤ v1 then zoL (v5 + (2 * x4)) (fun x8 => L_MPacker_distance_15 sh fu v0 v1 v2 v3 v4 x8 (v6 + 1) mm) else (if x4 = 0 then none else zoL ((2 + (2 * v6)) + ((v1 - v5) / x4)) (fun x10 => (if x4 = 0 then none else zoL ((v1 - v5) - (v1 - v5) / x4 * x4) (fun x12 => zoL (v5 + (2 * x4)) (fun x13 => L_MPacker_distance_15 sh fu v0 v1 x10 v6 x12 x13 (v6 + 1) mm))))))))))
set_option maxHeartbeats 4000000 in
set_option maxRecDepth 100000 in
theorem lp_MPacker_distance_15 {p : Program} {l : Launch} {e : Env} {s : State} {m : MethodId} {args : Array Value} {below : List Frame} {meth : Method} {c : Code} {D : va_G} {tA : Nat → ClassId} {b n : Nat} {post : Option Value → zV → Nat → Prop} {sh : zSh} (F : zF p s m args meth c zb_MPacker_distance 8 "OrreryBoxModel$Packer" D tA b) : ∀ (fuel : Nat) (v0 : Nat) (v1 : Int32) (v2 : Int32) (v3 : Int32) (v4 : Int32) (v5 : Int32) (v6 : Int32) (mm : zMem) (r : Nat × Int32 × Int32 × Int32 × Int32 × Int32 × Int32 × zMem), L_MPacker_distance_15 sh fuel v0 v1 v2 v3 v4 v5 v6 mm = some r → (Z p l e { frames := 3, cells := 0, slots := 0, locals := 65 } s m args below meth c D b 8 (MQ below (zQ D b post) args s 0 0 (fun q => b ≤ q)) (zW tA b sh r.2.2.2.2.2.2.2) n 0 0 92 [(0, .ref (b + (r.1))), (1, .int (r.2.1)), (2, .int (r.2.2.1)), (3, .int (r.2.2.2.1)), (4, .int (r.2.2.2.2.1)), (5, .int (r.2.2.2.2.2.1)), (6, .int (r.2.2.2.2.2.2.1))] []) → Z p l e { frames := 3, cells := 0, slots := 0, locals := 65 } s m args below meth c D b 8 (MQ below (zQ D b post) args s 0 0 (fun q => b ≤ q)) (zW tA b sh mm) n 0 0 15 [(0, .ref (b + v0)), (1, .int v1), (2, .int v2), (3, .int v3), (4, .int v4), (5, .int v5), (6, .int v6)] [] := by
  intro fuel
  induction fuel with
  | zero =>
    intro v0 v1 v2 v3 v4 v5 v6 mm r h
    cases h
  | succ fu ih =>
    intro v0 v1 v2 v3 v4 v5 v6 mm r h hx0
    rw [L_MPacker_distance_15] at h
    refine zr_iload F zd_MPacker_distance_15 rfl ?_
    refine zr_bipushv (v := 13) F zd_MPacker_distance_17 (by decide) ?_
    refine zr_icmp_gt F 92 zd_MPacker_distance_19 (by decide) (fun hb2 => ?_) (fun hb2 => ?_)
    ·
      rw [if_pos hb2] at h
      obtain rfl := Option.some.inj h
      refine zr_loc (L' := [(0, .ref (b + v0)), (1, .int v1), (2, .int v2), (3, .int v3), (4, .int v4), (5, .int v5), (6, .int v6)]) ⟨rfl, rfl, rfl, rfl, rfl, rfl, rfl, trivial⟩ ?_
      exact hx0 
    ·
      rw [if_neg hb2] at h
      refine zr_pcn 22 rfl ?_
      refine zr_iload_n F zd_MPacker_distance_22 rfl ?_
      refine zr_iconstv (v := 5) F zd_MPacker_distance_23 (by decide) ?_
      refine zr_icmp_lt F 92 zd_MPacker_distance_24 (by decide) (fun hb3 => ?_) (fun hb3 => ?_)
      ·
        rw [if_pos hb3] at h
        obtain rfl := Option.some.inj h
        refine zr_loc (L' := [(0, .ref (b + v0)), (1, .int v1), (2, .int v2), (3, .int v3), (4, .int v4), (5, .int v5), (6, .int v6)]) ⟨rfl, rfl, rfl, rfl, rfl, rfl, rfl, trivial⟩ ?_
        exact hx0 
      ·
        rw [if_neg hb3] at h
        refine zr_iconstv (v := 1) F zd_MPacker_distance_27 (by decide) ?_
        refine zr_iload F zd_MPacker_distance_28 rfl ?_
        refine zr_ishl F zd_MPacker_distance_30 ?_
        obtain ⟨x4, ex4, h⟩ := zoL_s h
        rw [← ex4]
        refine zr_istore F zd_MPacker_distance_31 (by decide) ?_
        refine zr_iload_n F zd_MPacker_distance_33 rfl ?_
        refine zr_pcn 34 rfl ?_
        refine zr_iload F zd_MPacker_distance_34 rfl ?_
        refine zr_icmp_lt F 77 zd_MPacker_distance_36 (by decide) (fun hb5 => ?_) (fun hb5 => ?_)
        ·
          rw [if_pos hb5] at h
          refine zr_iload F zd_MPacker_distance_77 rfl ?_
          refine zr_iconstv (v := 2) F zd_MPacker_distance_79 (by decide) ?_
          refine zr_iload F zd_MPacker_distance_80 rfl ?_
          refine zr_imul F zd_MPacker_distance_82 ?_
          refine zr_iadd F zd_MPacker_distance_83 ?_
          obtain ⟨x6, ex6, h⟩ := zoL_s h
          rw [← ex6]
          refine zr_istore F zd_MPacker_distance_84 (by decide) ?_
          refine zr_pcn 86 rfl ?_
          refine zr_iinc (v := (v6 + 1)) F zd_MPacker_distance_86 rfl rfl (by decide) ?_
          refine zr_goto F 15 zd_MPacker_distance_89 (by decide) ?_
          refine zr_loc (L' := [(0, .ref (b + v0)), (1, .int v1), (2, .int v2), (3, .int v3), (4, .int v4), (5, .int x6), (6, .int (v6 + 1))]) ⟨rfl, rfl, rfl, rfl, rfl, rfl, rfl, trivial⟩ ?_
          exact ih _ _ _ _ _ _ _ _ _ h hx0
        ·
          rw [if_neg hb5] at h
          refine zr_iload_n F zd_MPacker_distance_39 rfl ?_
          refine zr_iload F zd_MPacker_distance_40 rfl ?_
          refine zr_iconstv (v := 2) F zd_MPacker_distance_42 (by decide) ?_
          refine zr_iload F zd_MPacker_distance_43 rfl ?_
          refine zr_imul F zd_MPacker_distance_45 ?_
          refine zr_iadd F zd_MPacker_distance_46 ?_
          refine zr_pcn 47 rfl ?_
          refine zr_icmp_ge F 77 zd_MPacker_distance_47 (by decide) (fun hb7 => ?_) (fun hb7 => ?_)
          ·
            rw [if_pos hb7] at h
            refine zr_iload F zd_MPacker_distance_77 rfl ?_
            refine zr_iconstv (v := 2) F zd_MPacker_distance_79 (by decide) ?_
            refine zr_iload F zd_MPacker_distance_80 rfl ?_
            refine zr_imul F zd_MPacker_distance_82 ?_
            refine zr_iadd F zd_MPacker_distance_83 ?_
            obtain ⟨x8, ex8, h⟩ := zoL_s h
            rw [← ex8]
            refine zr_istore F zd_MPacker_distance_84 (by decide) ?_
            refine zr_iinc (v := (v6 + 1)) F zd_MPacker_distance_86 rfl rfl (by decide) ?_
            refine zr_pcn 89 rfl ?_
            refine zr_goto F 15 zd_MPacker_distance_89 (by decide) ?_
            refine zr_loc (L' := [(0, .ref (b + v0)), (1, .int v1), (2, .int v2), (3, .int v3), (4, .int v4), (5, .int x8), (6, .int (v6 + 1))]) ⟨rfl, rfl, rfl, rfl, rfl, rfl, rfl, trivial⟩ ?_
            exact ih _ _ _ _ _ _ _ _ _ h hx0
          ·
            rw [if_neg hb7] at h
            refine zr_iconstv (v := 2) F zd_MPacker_distance_50 (by decide) ?_
            refine zr_iconstv (v := 2) F zd_MPacker_distance_51 (by decide) ?_
            refine zr_iload F zd_MPacker_distance_52 rfl ?_
            refine zr_imul F zd_MPacker_distance_54 ?_
            refine zr_iadd F zd_MPacker_distance_55 ?_
            refine zr_iload_n F zd_MPacker_distance_56 rfl ?_
            refine zr_iload F zd_MPacker_distance_57 rfl ?_
            refine zr_pcn 59 rfl ?_
            refine zr_isub F zd_MPacker_distance_59 ?_
            refine zr_iload F zd_MPacker_distance_60 rfl ?_
            obtain ⟨hn9, h⟩ := zoI_s h
            refine zr_idiv F zd_MPacker_distance_62 hn9 ?_
            refine zr_iadd F zd_MPacker_distance_63 ?_
            obtain ⟨x10, ex10, h⟩ := zoL_s h
            rw [← ex10]
            refine zr_istore_n F zd_MPacker_distance_64 (by decide) ?_
            refine zr_iload F zd_MPacker_distance_65 rfl ?_
            refine zr_istore_n F zd_MPacker_distance_67 (by decide) ?_
            refine zr_iload_n F zd_MPacker_distance_68 rfl ?_
            refine zr_pcn 69 rfl ?_
            refine zr_iload F zd_MPacker_distance_69 rfl ?_
            refine zr_isub F zd_MPacker_distance_71 ?_
            refine zr_iload F zd_MPacker_distance_72 rfl ?_
            obtain ⟨hn11, h⟩ := zoI_s h
            refine zr_irem F zd_MPacker_distance_74 hn11 ?_
            obtain ⟨x12, ex12, h⟩ := zoL_s h
            rw [← ex12]
            refine zr_istore F zd_MPacker_distance_75 (by decide) ?_
            refine zr_iload F zd_MPacker_distance_77 rfl ?_
            refine zr_iconstv (v := 2) F zd_MPacker_distance_79 (by decide) ?_
            refine zr_iload F zd_MPacker_distance_80 rfl ?_
            refine zr_pcn 82 rfl ?_
            refine zr_imul F zd_MPacker_distance_82 ?_
            refine zr_iadd F zd_MPacker_distance_83 ?_
            obtain ⟨x13, ex13, h⟩ := zoL_s h
            rw [← ex13]
            refine zr_istore F zd_MPacker_distance_84 (by decide) ?_
            refine zr_iinc (v := (v6 + 1)) F zd_MPacker_distance_86 rfl rfl (by decide) ?_
            refine zr_goto F 15 zd_MPacker_distance_89 (by decide) ?_
            refine zr_loc (L' := [(0, .ref (b + v0)), (1, .int v1), (2, .int x10), (3, .int v6), (4, .int x12), (5, .int x13), (6, .int (v6 + 1))]) ⟨rfl, rfl, rfl, rfl, rfl, rfl, rfl, trivial⟩ ?_
            exact ih _ _ _ _ _ _ _ _ _ h hx0
def F_MPacker_distance (sh : zSh) (mm : zMem) (o : Nat) (x0_ : Int32) : Option zMem := zoL (x0_ - 1) (fun x1 => Option.bind (L_MPacker_distance_15 sh zfuel o x0_ x1 0 0 5 1 mm) (fun q14 => zoS (sh (q14.1)) 12 (fun le16 => Option.bind (F_MPacker_highFirst sh (q14.2.2.2.2.2.2.2) (q14.1) (q14.2.2.1) 5) (fun p17 => zoS (sh (q14.1)) 12 (fun le19 => Option.bind (F_MPacker_lowFirst sh p17 (q14.1) (q14.2.2.2.2.1) (q14.2.2.2.1)) (fun p20 => some p20))))))
set_option maxHeartbeats 4000000 in
set_option maxRecDepth 100000 in
theorem k_MPacker_distance (l : Launch) (D : va_G) (tA : Nat → ClassId) (b : Nat) (sh : zSh) (n : Nat) {mm : zMem} {o : Nat} {x0_ : Int32} {r : zMem} (h : F_MPacker_distance sh mm o x0_ = some r) : zM l D tA b zy_MPacker_distance zb_MPacker_distance 8 none 3 65 0 0 [.ref (b + o), .int x0_] (zW tA b sh mm) n (zE none (zW tA b sh r) n) := by
  unfold F_MPacker_distance at h
  refine zM_of (own := "OrreryBoxModel$Packer") (plainFor_of_name (by decide)) rfl (Nat.le_of_ble_eq_true rfl) (fun p e s m below meth c F hr hin hH => ?_)
  refine zr_iload_n F zd_MPacker_distance_0 rfl ?_
  refine zr_iconstv (v := 1) F zd_MPacker_distance_1 (by decide) ?_
  refine zr_isub F zd_MPacker_distance_2 ?_
  obtain ⟨x1, ex1, h⟩ := zoL_s h
  rw [← ex1]
  refine zr_istore_n F zd_MPacker_distance_3 (by decide) ?_
  refine zr_iconstv (v := 0) F zd_MPacker_distance_4 (by decide) ?_
  refine zr_istore_n F zd_MPacker_distance_5 (by decide) ?_
  refine zr_iconstv (v := 0) F zd_MPacker_distance_6 (by decide) ?_
  refine zr_pcn 7 rfl ?_
  refine zr_istore F zd_MPacker_distance_7 (by decide) ?_
  refine zr_iconstv (v := 5) F zd_MPacker_distance_9 (by decide) ?_
  refine zr_istore F zd_MPacker_distance_10 (by decide) ?_
  refine zr_iconstv (v := 1) F zd_MPacker_distance_12 (by decide) ?_
  refine zr_istore F zd_MPacker_distance_13 (by decide) ?_
  obtain ⟨q14, eq14, h⟩ := zoB_s h
  refine zr_loc (L' := [(0, .ref (b + o)), (1, .int x0_), (2, .int x1), (3, .int 0), (4, .int 0), (5, .int 5), (6, .int 1)]) ⟨rfl, rfl, rfl, rfl, rfl, rfl, rfl, trivial⟩ ?_
  refine lp_MPacker_distance_15 F _ _ _ _ _ _ _ _ _ _ eq14 ?_
  ·
    refine zr_aload_n F zd_MPacker_distance_92 rfl ?_
    refine zr_iload_n F zd_MPacker_distance_93 rfl ?_
    refine zr_iconstv (v := 5) F zd_MPacker_distance_94 (by decide) ?_
    refine zr_pcn 95 rfl ?_
    obtain ⟨le16, hs15, h⟩ := zoS_s h
    obtain ⟨p17, ep17, h⟩ := zoB_s h
    refine zr_callV0 F (k_MPacker_highFirst l D tA b sh _ ep17) zd_MPacker_distance_95 (zW_o hs15 (by decide)) rfl zs_MPacker_88 rfl zq_MPacker_highFirst rfl rfl ⟨(Nat.le_of_ble_eq_true rfl), (Nat.le_of_ble_eq_true rfl)⟩ (Nat.le_of_ble_eq_true rfl) ⟨(Nat.le_of_ble_eq_true rfl), (Nat.le_of_ble_eq_true rfl)⟩ ?_
    refine zr_aload_n F zd_MPacker_distance_98 rfl ?_
    refine zr_iload F zd_MPacker_distance_99 rfl ?_
    refine zr_iload_n F zd_MPacker_distance_101 rfl ?_
    obtain ⟨le19, hs18, h⟩ := zoS_s h
    obtain ⟨p20, ep20, h⟩ := zoB_s h
    refine zr_callV0 F (k_MPacker_lowFirst l D tA b sh _ ep20) zd_MPacker_distance_102 (zW_o hs18 (by decide)) rfl zs_MPacker_92 rfl zq_MPacker_lowFirst rfl rfl ⟨(Nat.le_of_ble_eq_true rfl), (Nat.le_of_ble_eq_true rfl)⟩ (Nat.le_of_ble_eq_true rfl) ⟨(Nat.le_of_ble_eq_true rfl), (Nat.le_of_ble_eq_true rfl)⟩ ?_
    obtain rfl := Option.some.inj h
    exact zr_vret F hr zd_MPacker_distance_105 (Nat.le_of_ble_eq_true rfl) (Nat.le_of_ble_eq_true rfl) ⟨rfl, rfl, rfl⟩
abbrev zb_MPacker_alike : ByteArray := prog_15_method_19_code
def zy_MPacker_alike : MethodName := ⟨"OrreryBoxModel$Packer", "alike", "(II)I"⟩
theorem zc_MPacker_alike : Cond.code zy_MPacker_alike zb_MPacker_alike 4 (some .int) ∈ gw := gw_t 2243 (by decide +kernel) rfl
theorem zq_MPacker_alike : zy_MPacker_alike.cls ≠ "java/lang/invoke/MethodHandle" ∧ zy_MPacker_alike.cls ≠ "java/lang/invoke/VarHandle" ∧ (parseMethodDescriptor zy_MPacker_alike.desc).map (fun d => d.parameters.length) = some 2 := by decide +kernel
theorem zd_MPacker_alike_0 : decode zb_MPacker_alike 0 = .ok (.iconst 0, 1) := by decide +kernel
theorem zd_MPacker_alike_1 : decode zb_MPacker_alike 1 = .ok (.istore_n 3, 1) := by decide +kernel
theorem zd_MPacker_alike_2 : decode zb_MPacker_alike 2 = .ok (.iload_n 3, 1) := by decide +kernel
theorem zd_MPacker_alike_3 : decode zb_MPacker_alike 3 = .ok (.sipush 258, 3) := by decide +kernel
theorem zd_MPacker_alike_6 : decode zb_MPacker_alike 6 = .ok (.if_icmp .ge 38, 3) := by decide +kernel
theorem zd_MPacker_alike_9 : decode zb_MPacker_alike 9 = .ok (.iload_n 2, 1) := by decide +kernel
theorem zd_MPacker_alike_10 : decode zb_MPacker_alike 10 = .ok (.iload_n 3, 1) := by decide +kernel
theorem zd_MPacker_alike_11 : decode zb_MPacker_alike 11 = .ok (.iadd, 1) := by decide +kernel
theorem zd_MPacker_alike_12 : decode zb_MPacker_alike 12 = .ok (.aload_n 0, 1) := by decide +kernel
theorem zd_MPacker_alike_13 : decode zb_MPacker_alike 13 = .ok (.getfield 48, 3) := by decide +kernel
theorem zd_MPacker_alike_16 : decode zb_MPacker_alike 16 = .ok (.if_icmp .ge 28, 3) := by decide +kernel
theorem zd_MPacker_alike_19 : decode zb_MPacker_alike 19 = .ok (.aload_n 0, 1) := by decide +kernel
theorem zd_MPacker_alike_20 : decode zb_MPacker_alike 20 = .ok (.getfield 7, 3) := by decide +kernel
theorem zd_MPacker_alike_23 : decode zb_MPacker_alike 23 = .ok (.iload_n 1, 1) := by decide +kernel
theorem zd_MPacker_alike_24 : decode zb_MPacker_alike 24 = .ok (.iload_n 3, 1) := by decide +kernel
theorem zd_MPacker_alike_25 : decode zb_MPacker_alike 25 = .ok (.iadd, 1) := by decide +kernel
theorem zd_MPacker_alike_26 : decode zb_MPacker_alike 26 = .ok (.iaload, 1) := by decide +kernel
theorem zd_MPacker_alike_27 : decode zb_MPacker_alike 27 = .ok (.aload_n 0, 1) := by decide +kernel
theorem zd_MPacker_alike_28 : decode zb_MPacker_alike 28 = .ok (.getfield 7, 3) := by decide +kernel
theorem zd_MPacker_alike_31 : decode zb_MPacker_alike 31 = .ok (.iload_n 2, 1) := by decide +kernel
theorem zd_MPacker_alike_32 : decode zb_MPacker_alike 32 = .ok (.iload_n 3, 1) := by decide +kernel
theorem zd_MPacker_alike_33 : decode zb_MPacker_alike 33 = .ok (.iadd, 1) := by decide +kernel
theorem zd_MPacker_alike_34 : decode zb_MPacker_alike 34 = .ok (.iaload, 1) := by decide +kernel
theorem zd_MPacker_alike_35 : decode zb_MPacker_alike 35 = .ok (.if_icmp .ne 9, 3) := by decide +kernel
theorem zd_MPacker_alike_38 : decode zb_MPacker_alike 38 = .ok (.iinc 3 1, 3) := by decide +kernel
theorem zd_MPacker_alike_41 : decode zb_MPacker_alike 41 = .ok (.goto (-39), 3) := by decide +kernel
theorem zd_MPacker_alike_44 : decode zb_MPacker_alike 44 = .ok (.iload_n 3, 1) := by decide +kernel
theorem zd_MPacker_alike_45 : decode zb_MPacker_alike 45 = .ok (.ireturn, 1) := by decide +kernel
def L_MPacker_alike_2 (sh : zSh) (fuel : Nat) (v0 : Nat) (v1 : Int32) (v2 : Int32) (v3 : Int32) (mm : zMem) : Option (Nat × Int32 × Int32 × Int32 × zMem) := match fuel with
  | 0 => none
  | fu + 1 => (if 258 ≤ v3 then some (v0, v1, v2, v3, mm) else zoS (sh v0) 12 (fun le3 => (if (mm.1 v0 1) ≤ (v2 + v3) then some (v0, v1, v2, v3, mm) else zoS (sh v0) 12 (fun le6 => Option.bind (mm.2.2 v0 0) (fun a7 => zoL (v1 + v3) (fun i8 => zoS (sh a7) 100 (fun le10 => if (i8 : Int32) < 0 ∨ le10 ≤ (i8 : Int32).toNatClampNeg then none else zoS (sh v0) 12 (fun le13 => Option.bind (mm.2.2 v0 0) (fun a14 => zoL (v2 + v3) (fun i15 => zoS (sh a14) 100 (fun le17 => if (i15 : Int32) < 0 ∨ le17 ≤ (i15 : Int32).toNatClampNeg then none else (if (mm.1 a7 (i8 : Int32).toNatClampNeg) = (mm.1 a14 (i15 : Int32).toNatClampNeg) then L_MPacker_alike_2 sh fu v0 v1 v2 (v3 + 1) mm else some (v0, v1, v2, v3, mm)))))))))))))
set_option maxHeartbeats 4000000 in
set_option maxRecDepth 100000 in
theorem lp_MPacker_alike_2 {p : Program} {l : Launch} {e : Env} {s : State} {m : MethodId} {args : Array Value} {below : List Frame} {meth : Method} {c : Code} {D : va_G} {tA : Nat → ClassId} {b n : Nat} {post : Option Value → zV → Nat → Prop} {sh : zSh} (F : zF p s m args meth c zb_MPacker_alike 4 "OrreryBoxModel$Packer" D tA b) : ∀ (fuel : Nat) (v0 : Nat) (v1 : Int32) (v2 : Int32) (v3 : Int32) (mm : zMem) (r : Nat × Int32 × Int32 × Int32 × zMem), L_MPacker_alike_2 sh fuel v0 v1 v2 v3 mm = some r → (Z p l e { frames := 0, cells := 0, slots := 0, locals := 0 } s m args below meth c D b 4 (MQ below (zQ D b post) args s 0 0 (fun q => b ≤ q)) (zW tA b sh r.2.2.2.2) n 0 0 44 [(0, .ref (b + (r.1))), (1, .int (r.2.1)), (2, .int (r.2.2.1)), (3, .int (r.2.2.2.1))] []) → Z p l e { frames := 0, cells := 0, slots := 0, locals := 0 } s m args below meth c D b 4 (MQ below (zQ D b post) args s 0 0 (fun q => b ≤ q)) (zW tA b sh mm) n 0 0 2 [(0, .ref (b + v0)), (1, .int v1), (2, .int v2), (3, .int v3)] [] := by
  intro fuel
  induction fuel with
  | zero =>
    intro v0 v1 v2 v3 mm r h
    cases h
  | succ fu ih =>
    intro v0 v1 v2 v3 mm r h hx0
    rw [L_MPacker_alike_2] at h
    refine zr_iload_n F zd_MPacker_alike_2 rfl ?_
    refine zr_sipushv (v := 258) F zd_MPacker_alike_3 (by decide) ?_
    refine zr_icmp_ge F 44 zd_MPacker_alike_6 (by decide) (fun hb1 => ?_) (fun hb1 => ?_)
    ·
      rw [if_pos hb1] at h
      obtain rfl := Option.some.inj h
      refine zr_loc (L' := [(0, .ref (b + v0)), (1, .int v1), (2, .int v2), (3, .int v3)]) ⟨rfl, rfl, rfl, rfl, trivial⟩ ?_
      exact hx0 
    ·
      rw [if_neg hb1] at h
      refine zr_iload_n F zd_MPacker_alike_9 rfl ?_
      refine zr_iload_n F zd_MPacker_alike_10 rfl ?_
      refine zr_pcn 11 rfl ?_
      refine zr_iadd F zd_MPacker_alike_11 ?_
      refine zr_aload_n F zd_MPacker_alike_12 rfl ?_
      obtain ⟨le3, hs2, h⟩ := zoS_s h
      refine zr_get F 12 1 zd_MPacker_alike_13 (zW_o hs2 (by decide)) rfl (by decide) zw_1547 rfl (by rfl) ?_
      refine zr_icmp_ge F 44 zd_MPacker_alike_16 (by decide) (fun hb4 => ?_) (fun hb4 => ?_)
      ·
        rw [if_pos hb4] at h
        obtain rfl := Option.some.inj h
        refine zr_loc (L' := [(0, .ref (b + v0)), (1, .int v1), (2, .int v2), (3, .int v3)]) ⟨rfl, rfl, rfl, rfl, trivial⟩ ?_
        exact hx0 
      ·
        rw [if_neg hb4] at h
        refine zr_aload_n F zd_MPacker_alike_19 rfl ?_
        obtain ⟨le6, hs5, h⟩ := zoS_s h
        obtain ⟨a7, ea7, h⟩ := zoB_s h
        refine zr_get F 12 0 zd_MPacker_alike_20 (zW_o hs5 (by decide)) rfl (by decide) zw_1546 rfl (by rfl) ?_
        refine zr_tor ea7 ?_
        refine zr_iload_n F zd_MPacker_alike_23 rfl ?_
        refine zr_iload_n F zd_MPacker_alike_24 rfl ?_
        refine zr_pcn 25 rfl ?_
        refine zr_iadd F zd_MPacker_alike_25 ?_
        obtain ⟨i8, ei8, h⟩ := zoL_s h
        rw [← ei8]
        obtain ⟨le10, hs9, h⟩ := zoS_s h
        obtain ⟨hi11, h⟩ := zoI_s h
        refine zr_iald F zd_MPacker_alike_26 (zW_a0 hs9) hi11 ?_
        refine zr_aload_n F zd_MPacker_alike_27 rfl ?_
        obtain ⟨le13, hs12, h⟩ := zoS_s h
        obtain ⟨a14, ea14, h⟩ := zoB_s h
        refine zr_get F 12 0 zd_MPacker_alike_28 (zW_o hs12 (by decide)) rfl (by decide) zw_1546 rfl (by rfl) ?_
        refine zr_tor ea14 ?_
        refine zr_iload_n F zd_MPacker_alike_31 rfl ?_
        refine zr_iload_n F zd_MPacker_alike_32 rfl ?_
        refine zr_iadd F zd_MPacker_alike_33 ?_
        obtain ⟨i15, ei15, h⟩ := zoL_s h
        rw [← ei15]
        obtain ⟨le17, hs16, h⟩ := zoS_s h
        obtain ⟨hi18, h⟩ := zoI_s h
        refine zr_iald F zd_MPacker_alike_34 (zW_a0 hs16) hi18 ?_
        refine zr_pcn 35 rfl ?_
        refine zr_icmp_ne F 44 zd_MPacker_alike_35 (by decide) (fun hb19 => ?_) (fun hb19 => ?_)
        ·
          rw [if_neg hb19] at h
          obtain rfl := Option.some.inj h
          refine zr_loc (L' := [(0, .ref (b + v0)), (1, .int v1), (2, .int v2), (3, .int v3)]) ⟨rfl, rfl, rfl, rfl, trivial⟩ ?_
          exact hx0 
        ·
          rw [if_pos hb19] at h
          refine zr_iinc (v := (v3 + 1)) F zd_MPacker_alike_38 rfl rfl (by decide) ?_
          refine zr_goto F 2 zd_MPacker_alike_41 (by decide) ?_
          refine zr_loc (L' := [(0, .ref (b + v0)), (1, .int v1), (2, .int v2), (3, .int (v3 + 1))]) ⟨rfl, rfl, rfl, rfl, trivial⟩ ?_
          exact ih _ _ _ _ _ _ h hx0
def F_MPacker_alike (sh : zSh) (mm : zMem) (o : Nat) (x0_ : Int32) (x1_ : Int32) : Option (Int32 × zMem) := Option.bind (L_MPacker_alike_2 sh zfuel o x0_ x1_ 0 mm) (fun q20 => some (q20.2.2.2.1, q20.2.2.2.2))
set_option maxHeartbeats 4000000 in
set_option maxRecDepth 100000 in
theorem k_MPacker_alike (l : Launch) (D : va_G) (tA : Nat → ClassId) (b : Nat) (sh : zSh) (n : Nat) {mm : zMem} {o : Nat} {x0_ : Int32} {x1_ : Int32} {r : (Int32 × zMem)} (h : F_MPacker_alike sh mm o x0_ x1_ = some r) : zM l D tA b zy_MPacker_alike zb_MPacker_alike 4 (some .int) 0 0 0 0 [.ref (b + o), .int x0_, .int x1_] (zW tA b sh mm) n (zE (some (.int (r.1))) (zW tA b sh r.2) n) := by
  unfold F_MPacker_alike at h
  refine zM_of (own := "OrreryBoxModel$Packer") (plainFor_of_name (by decide)) rfl (Nat.le_of_ble_eq_true rfl) (fun p e s m below meth c F hr hin hH => ?_)
  refine zr_iconstv (v := 0) F zd_MPacker_alike_0 (by decide) ?_
  refine zr_istore_n F zd_MPacker_alike_1 (by decide) ?_
  obtain ⟨q20, eq20, h⟩ := zoB_s h
  refine zr_loc (L' := [(0, .ref (b + o)), (1, .int x0_), (2, .int x1_), (3, .int 0)]) ⟨rfl, rfl, rfl, rfl, trivial⟩ ?_
  refine lp_MPacker_alike_2 F _ _ _ _ _ _ _ eq20 ?_
  ·
    refine zr_iload_n F zd_MPacker_alike_44 rfl ?_
    obtain rfl := Option.some.inj h
    exact zr_iret F hr zd_MPacker_alike_45 (Nat.le_of_ble_eq_true rfl) (Nat.le_of_ble_eq_true rfl) ⟨rfl, rfl, rfl⟩
abbrev zb_MPacker_pack : ByteArray := prog_15_method_20_code
def zy_MPacker_pack : MethodName := ⟨"OrreryBoxModel$Packer", "pack", "()V"⟩
theorem zc_MPacker_pack : Cond.code zy_MPacker_pack zb_MPacker_pack 6 none ∈ gw := gw_t 2234 (by decide +kernel) rfl
theorem zq_MPacker_pack : zy_MPacker_pack.cls ≠ "java/lang/invoke/MethodHandle" ∧ zy_MPacker_pack.cls ≠ "java/lang/invoke/VarHandle" ∧ (parseMethodDescriptor zy_MPacker_pack.desc).map (fun d => d.parameters.length) = some 0 := by decide +kernel
theorem zd_MPacker_pack_0 : decode zb_MPacker_pack 0 = .ok (.aload_n 0, 1) := by decide +kernel
theorem zd_MPacker_pack_1 : decode zb_MPacker_pack 1 = .ok (.iconst 0, 1) := by decide +kernel
theorem zd_MPacker_pack_2 : decode zb_MPacker_pack 2 = .ok (.putfield 82, 3) := by decide +kernel
theorem zd_MPacker_pack_5 : decode zb_MPacker_pack 5 = .ok (.aload_n 0, 1) := by decide +kernel
theorem zd_MPacker_pack_6 : decode zb_MPacker_pack 6 = .ok (.iconst 1, 1) := by decide +kernel
theorem zd_MPacker_pack_7 : decode zb_MPacker_pack 7 = .ok (.invokevirtual 85, 3) := by decide +kernel
theorem zd_MPacker_pack_10 : decode zb_MPacker_pack 10 = .ok (.aload_n 0, 1) := by decide +kernel
theorem zd_MPacker_pack_11 : decode zb_MPacker_pack 11 = .ok (.iconst 1, 1) := by decide +kernel
theorem zd_MPacker_pack_12 : decode zb_MPacker_pack 12 = .ok (.invokevirtual 85, 3) := by decide +kernel
theorem zd_MPacker_pack_15 : decode zb_MPacker_pack 15 = .ok (.aload_n 0, 1) := by decide +kernel
theorem zd_MPacker_pack_16 : decode zb_MPacker_pack 16 = .ok (.iconst 0, 1) := by decide +kernel
theorem zd_MPacker_pack_17 : decode zb_MPacker_pack 17 = .ok (.invokevirtual 85, 3) := by decide +kernel
theorem zd_MPacker_pack_20 : decode zb_MPacker_pack 20 = .ok (.iconst 0, 1) := by decide +kernel
theorem zd_MPacker_pack_21 : decode zb_MPacker_pack 21 = .ok (.istore_n 1, 1) := by decide +kernel
theorem zd_MPacker_pack_22 : decode zb_MPacker_pack 22 = .ok (.iload_n 1, 1) := by decide +kernel
theorem zd_MPacker_pack_23 : decode zb_MPacker_pack 23 = .ok (.aload_n 0, 1) := by decide +kernel
theorem zd_MPacker_pack_24 : decode zb_MPacker_pack 24 = .ok (.getfield 48, 3) := by decide +kernel
theorem zd_MPacker_pack_27 : decode zb_MPacker_pack 27 = .ok (.if_icmp .ge 93, 3) := by decide +kernel
theorem zd_MPacker_pack_30 : decode zb_MPacker_pack 30 = .ok (.iconst 2, 1) := by decide +kernel
theorem zd_MPacker_pack_31 : decode zb_MPacker_pack 31 = .ok (.istore_n 2, 1) := by decide +kernel
theorem zd_MPacker_pack_32 : decode zb_MPacker_pack 32 = .ok (.iconst 0, 1) := by decide +kernel
theorem zd_MPacker_pack_33 : decode zb_MPacker_pack 33 = .ok (.istore_n 3, 1) := by decide +kernel
theorem zd_MPacker_pack_34 : decode zb_MPacker_pack 34 = .ok (.iload_n 1, 1) := by decide +kernel
theorem zd_MPacker_pack_35 : decode zb_MPacker_pack 35 = .ok (.iconst 1, 1) := by decide +kernel
theorem zd_MPacker_pack_36 : decode zb_MPacker_pack 36 = .ok (.isub, 1) := by decide +kernel
theorem zd_MPacker_pack_37 : decode zb_MPacker_pack 37 = .ok (.istore 4, 2) := by decide +kernel
theorem zd_MPacker_pack_39 : decode zb_MPacker_pack 39 = .ok (.iload 4, 2) := by decide +kernel
theorem zd_MPacker_pack_41 : decode zb_MPacker_pack 41 = .ok (.ifCond .lt 39, 3) := by decide +kernel
theorem zd_MPacker_pack_44 : decode zb_MPacker_pack 44 = .ok (.iload 4, 2) := by decide +kernel
theorem zd_MPacker_pack_46 : decode zb_MPacker_pack 46 = .ok (.iload_n 1, 1) := by decide +kernel
theorem zd_MPacker_pack_47 : decode zb_MPacker_pack 47 = .ok (.ldc 95, 2) := by decide +kernel
theorem zd_MPacker_pack_49 : decode zb_MPacker_pack 49 = .ok (.isub, 1) := by decide +kernel
theorem zd_MPacker_pack_50 : decode zb_MPacker_pack 50 = .ok (.if_icmp .lt 30, 3) := by decide +kernel
theorem zd_MPacker_pack_53 : decode zb_MPacker_pack 53 = .ok (.aload_n 0, 1) := by decide +kernel
theorem zd_MPacker_pack_54 : decode zb_MPacker_pack 54 = .ok (.iload 4, 2) := by decide +kernel
theorem zd_MPacker_pack_56 : decode zb_MPacker_pack 56 = .ok (.iload_n 1, 1) := by decide +kernel
theorem zd_MPacker_pack_57 : decode zb_MPacker_pack 57 = .ok (.invokevirtual 96, 3) := by decide +kernel
theorem zd_MPacker_pack_60 : decode zb_MPacker_pack 60 = .ok (.istore 5, 2) := by decide +kernel
theorem zd_MPacker_pack_62 : decode zb_MPacker_pack 62 = .ok (.iload 5, 2) := by decide +kernel
theorem zd_MPacker_pack_64 : decode zb_MPacker_pack 64 = .ok (.iload_n 2, 1) := by decide +kernel
theorem zd_MPacker_pack_65 : decode zb_MPacker_pack 65 = .ok (.if_icmp .le 9, 3) := by decide +kernel
theorem zd_MPacker_pack_68 : decode zb_MPacker_pack 68 = .ok (.iload 5, 2) := by decide +kernel
theorem zd_MPacker_pack_70 : decode zb_MPacker_pack 70 = .ok (.istore_n 2, 1) := by decide +kernel
theorem zd_MPacker_pack_71 : decode zb_MPacker_pack 71 = .ok (.iload 4, 2) := by decide +kernel
theorem zd_MPacker_pack_73 : decode zb_MPacker_pack 73 = .ok (.istore_n 3, 1) := by decide +kernel
theorem zd_MPacker_pack_74 : decode zb_MPacker_pack 74 = .ok (.iinc 4 (-1), 3) := by decide +kernel
theorem zd_MPacker_pack_77 : decode zb_MPacker_pack 77 = .ok (.goto (-38), 3) := by decide +kernel
theorem zd_MPacker_pack_80 : decode zb_MPacker_pack 80 = .ok (.iload_n 2, 1) := by decide +kernel
theorem zd_MPacker_pack_81 : decode zb_MPacker_pack 81 = .ok (.iconst 3, 1) := by decide +kernel
theorem zd_MPacker_pack_82 : decode zb_MPacker_pack 82 = .ok (.if_icmp .lt 22, 3) := by decide +kernel
theorem zd_MPacker_pack_85 : decode zb_MPacker_pack 85 = .ok (.aload_n 0, 1) := by decide +kernel
theorem zd_MPacker_pack_86 : decode zb_MPacker_pack 86 = .ok (.iload_n 2, 1) := by decide +kernel
theorem zd_MPacker_pack_87 : decode zb_MPacker_pack 87 = .ok (.invokevirtual 99, 3) := by decide +kernel
theorem zd_MPacker_pack_90 : decode zb_MPacker_pack 90 = .ok (.aload_n 0, 1) := by decide +kernel
theorem zd_MPacker_pack_91 : decode zb_MPacker_pack 91 = .ok (.iload_n 1, 1) := by decide +kernel
theorem zd_MPacker_pack_92 : decode zb_MPacker_pack 92 = .ok (.iload_n 3, 1) := by decide +kernel
theorem zd_MPacker_pack_93 : decode zb_MPacker_pack 93 = .ok (.isub, 1) := by decide +kernel
theorem zd_MPacker_pack_94 : decode zb_MPacker_pack 94 = .ok (.invokevirtual 102, 3) := by decide +kernel
theorem zd_MPacker_pack_97 : decode zb_MPacker_pack 97 = .ok (.iload_n 1, 1) := by decide +kernel
theorem zd_MPacker_pack_98 : decode zb_MPacker_pack 98 = .ok (.iload_n 2, 1) := by decide +kernel
theorem zd_MPacker_pack_99 : decode zb_MPacker_pack 99 = .ok (.iadd, 1) := by decide +kernel
theorem zd_MPacker_pack_100 : decode zb_MPacker_pack 100 = .ok (.istore_n 1, 1) := by decide +kernel
theorem zd_MPacker_pack_101 : decode zb_MPacker_pack 101 = .ok (.goto 16, 3) := by decide +kernel
theorem zd_MPacker_pack_104 : decode zb_MPacker_pack 104 = .ok (.aload_n 0, 1) := by decide +kernel
theorem zd_MPacker_pack_105 : decode zb_MPacker_pack 105 = .ok (.aload_n 0, 1) := by decide +kernel
theorem zd_MPacker_pack_106 : decode zb_MPacker_pack 106 = .ok (.getfield 7, 3) := by decide +kernel
theorem zd_MPacker_pack_109 : decode zb_MPacker_pack 109 = .ok (.iload_n 1, 1) := by decide +kernel
theorem zd_MPacker_pack_110 : decode zb_MPacker_pack 110 = .ok (.iaload, 1) := by decide +kernel
theorem zd_MPacker_pack_111 : decode zb_MPacker_pack 111 = .ok (.invokevirtual 105, 3) := by decide +kernel
theorem zd_MPacker_pack_114 : decode zb_MPacker_pack 114 = .ok (.iinc 1 1, 3) := by decide +kernel
theorem zd_MPacker_pack_117 : decode zb_MPacker_pack 117 = .ok (.goto (-95), 3) := by decide +kernel
theorem zd_MPacker_pack_120 : decode zb_MPacker_pack 120 = .ok (.aload_n 0, 1) := by decide +kernel
theorem zd_MPacker_pack_121 : decode zb_MPacker_pack 121 = .ok (.iconst 0, 1) := by decide +kernel
theorem zd_MPacker_pack_122 : decode zb_MPacker_pack 122 = .ok (.bipush 7, 2) := by decide +kernel
theorem zd_MPacker_pack_124 : decode zb_MPacker_pack 124 = .ok (.invokevirtual 88, 3) := by decide +kernel
theorem zd_MPacker_pack_127 : decode zb_MPacker_pack 127 = .ok (.aload_n 0, 1) := by decide +kernel
theorem zd_MPacker_pack_128 : decode zb_MPacker_pack 128 = .ok (.iconst 0, 1) := by decide +kernel
theorem zd_MPacker_pack_129 : decode zb_MPacker_pack 129 = .ok (.putfield 82, 3) := by decide +kernel
theorem zd_MPacker_pack_132 : decode zb_MPacker_pack 132 = .ok (.return_, 1) := by decide +kernel
theorem zw_2239 : (Jvm.Cond.constant "OrreryBoxModel$Packer" (95 : Nat) (32768 : Int32)) ∈ gw := gw_t 2239 (by decide +kernel) rfl
theorem zw_2240 : (Jvm.Cond.methodLink "OrreryBoxModel$Packer" (96 : Nat) ({ cls := "OrreryBoxModel$Packer", name := "alike", desc := "(II)I" } : Jvm.MethodName)) ∈ gw := gw_t 2240 (by decide +kernel) rfl
theorem zw_2242 : (Jvm.Cond.instanceMethod ({ cls := "OrreryBoxModel$Packer", name := "alike", desc := "(II)I" } : Jvm.MethodName)) ∈ gw := gw_t 2242 (by decide +kernel) rfl
theorem zv_129 : (Jvm.Cond.selects "OrreryBoxModel$Packer" (⟨"OrreryBoxModel$Packer", "alike", "(II)I"⟩ : MethodName) ⟨"OrreryBoxModel$Packer", "alike", "(II)I"⟩) ∈ gw := gw_s 129 (by decide +kernel) rfl
theorem zs_MPacker_96 : zwV "OrreryBoxModel$Packer" 96 "OrreryBoxModel$Packer" zy_MPacker_alike zb_MPacker_alike 4 (some .int) := ⟨zw_2240, zw_2242, zv_129, zw_16, zc_MPacker_alike⟩
def L_MPacker_pack_39 (sh : zSh) (fuel : Nat) (v0 : Nat) (v1 : Int32) (v2 : Int32) (v3 : Int32) (v4 : Int32) (mm : zMem) : Option (Nat × Int32 × Int32 × Int32 × Int32 × zMem) := match fuel with
  | 0 => none
  | fu + 1 => (if v4 < 0 then some (v0, v1, v2, v3, v4, mm) else (if v4 < (v1 - 32768) then some (v0, v1, v2, v3, v4, mm) else zoS (sh v0) 12 (fun le20 => Option.bind (F_MPacker_alike sh mm v0 v4 v1) (fun p21 => (if p21.1 ≤ v2 then L_MPacker_pack_39 sh fu v0 v1 v2 v3 (v4 + (-1)) (p21.2) else L_MPacker_pack_39 sh fu v0 v1 (p21.1) v4 (v4 + (-1)) (p21.2))))))
set_option maxHeartbeats 4000000 in
set_option maxRecDepth 100000 in
theorem lp_MPacker_pack_39 {p : Program} {l : Launch} {e : Env} {s : State} {m : MethodId} {args : Array Value} {below : List Frame} {meth : Method} {c : Code} {D : va_G} {tA : Nat → ClassId} {b n : Nat} {post : Option Value → zV → Nat → Prop} {sh : zSh} (F : zF p s m args meth c zb_MPacker_pack 6 "OrreryBoxModel$Packer" D tA b) : ∀ (fuel : Nat) (v0 : Nat) (v1 : Int32) (v2 : Int32) (v3 : Int32) (v4 : Int32) (mm : zMem) (r : Nat × Int32 × Int32 × Int32 × Int32 × zMem), L_MPacker_pack_39 sh fuel v0 v1 v2 v3 v4 mm = some r → (Z p l e { frames := 4, cells := 0, slots := 0, locals := 92 } s m args below meth c D b 6 (MQ below (zQ D b post) args s 0 0 (fun q => b ≤ q)) (zW tA b sh r.2.2.2.2.2) n 0 0 80 [(0, .ref (b + (r.1))), (1, .int (r.2.1)), (2, .int (r.2.2.1)), (3, .int (r.2.2.2.1)), (4, .int (r.2.2.2.2.1))] []) → Z p l e { frames := 4, cells := 0, slots := 0, locals := 92 } s m args below meth c D b 6 (MQ below (zQ D b post) args s 0 0 (fun q => b ≤ q)) (zW tA b sh mm) n 0 0 39 [(0, .ref (b + v0)), (1, .int v1), (2, .int v2), (3, .int v3), (4, .int v4)] [] := by
  intro fuel
  induction fuel with
  | zero =>
    intro v0 v1 v2 v3 v4 mm r h
    cases h
  | succ fu ih =>
    intro v0 v1 v2 v3 v4 mm r h hx0
    rw [L_MPacker_pack_39] at h
    refine zr_iload F zd_MPacker_pack_39 rfl ?_
    refine zr_if_lt F 80 zd_MPacker_pack_41 (by decide) (fun hb17 => ?_) (fun hb17 => ?_)
    ·
      rw [if_pos hb17] at h
      obtain rfl := Option.some.inj h
      refine zr_loc (L' := [(0, .ref (b + v0)), (1, .int v1), (2, .int v2), (3, .int v3), (4, .int v4)]) ⟨rfl, rfl, rfl, rfl, rfl, trivial⟩ ?_
      exact hx0 
    ·
      rw [if_neg hb17] at h
      refine zr_iload F zd_MPacker_pack_44 rfl ?_
      refine zr_iload_n F zd_MPacker_pack_46 rfl ?_
      refine zr_ldc F zd_MPacker_pack_47 zw_2239 ?_
      refine zr_pcn 49 rfl ?_
      refine zr_isub F zd_MPacker_pack_49 ?_
      refine zr_icmp_lt F 80 zd_MPacker_pack_50 (by decide) (fun hb18 => ?_) (fun hb18 => ?_)
      ·
        rw [if_pos hb18] at h
        obtain rfl := Option.some.inj h
        refine zr_loc (L' := [(0, .ref (b + v0)), (1, .int v1), (2, .int v2), (3, .int v3), (4, .int v4)]) ⟨rfl, rfl, rfl, rfl, rfl, trivial⟩ ?_
        exact hx0 
      ·
        rw [if_neg hb18] at h
        refine zr_aload_n F zd_MPacker_pack_53 rfl ?_
        refine zr_iload F zd_MPacker_pack_54 rfl ?_
        refine zr_iload_n F zd_MPacker_pack_56 rfl ?_
        obtain ⟨le20, hs19, h⟩ := zoS_s h
        obtain ⟨p21, ep21, h⟩ := zoB_s h
        refine zr_callV1 F (k_MPacker_alike l D tA b sh _ ep21) zd_MPacker_pack_57 (zW_o hs19 (by decide)) rfl zs_MPacker_96 rfl zq_MPacker_alike rfl rfl ⟨(Nat.le_of_ble_eq_true rfl), (Nat.le_of_ble_eq_true rfl)⟩ (Nat.le_of_ble_eq_true rfl) ⟨(Nat.le_of_ble_eq_true rfl), (Nat.le_of_ble_eq_true rfl)⟩ ?_
        refine zr_istore F zd_MPacker_pack_60 (by decide) ?_
        refine zr_iload F zd_MPacker_pack_62 rfl ?_
        refine zr_pcn 64 rfl ?_
        refine zr_iload_n F zd_MPacker_pack_64 rfl ?_
        refine zr_icmp_le F 74 zd_MPacker_pack_65 (by decide) (fun hb22 => ?_) (fun hb22 => ?_)
        ·
          rw [if_pos hb22] at h
          refine zr_iinc (v := (v4 + (-1))) F zd_MPacker_pack_74 rfl rfl (by decide) ?_
          refine zr_goto F 39 zd_MPacker_pack_77 (by decide) ?_
          refine zr_loc (L' := [(0, .ref (b + v0)), (1, .int v1), (2, .int v2), (3, .int v3), (4, .int (v4 + (-1)))]) ⟨rfl, rfl, rfl, rfl, rfl, trivial⟩ ?_
          exact ih _ _ _ _ _ _ _ h hx0
        ·
          rw [if_neg hb22] at h
          refine zr_iload F zd_MPacker_pack_68 rfl ?_
          refine zr_istore_n F zd_MPacker_pack_70 (by decide) ?_
          refine zr_iload F zd_MPacker_pack_71 rfl ?_
          refine zr_istore_n F zd_MPacker_pack_73 (by decide) ?_
          refine zr_pcn 74 rfl ?_
          refine zr_iinc (v := (v4 + (-1))) F zd_MPacker_pack_74 rfl rfl (by decide) ?_
          refine zr_goto F 39 zd_MPacker_pack_77 (by decide) ?_
          refine zr_loc (L' := [(0, .ref (b + v0)), (1, .int v1), (2, .int (p21.1)), (3, .int v4), (4, .int (v4 + (-1)))]) ⟨rfl, rfl, rfl, rfl, rfl, trivial⟩ ?_
          exact ih _ _ _ _ _ _ _ h hx0
theorem zw_2260 : (Jvm.Cond.methodLink "OrreryBoxModel$Packer" (105 : Nat) ({ cls := "OrreryBoxModel$Packer", name := "one", desc := "(I)V" } : Jvm.MethodName)) ∈ gw := gw_t 2260 (by decide +kernel) rfl
theorem zw_2262 : (Jvm.Cond.instanceMethod ({ cls := "OrreryBoxModel$Packer", name := "one", desc := "(I)V" } : Jvm.MethodName)) ∈ gw := gw_t 2262 (by decide +kernel) rfl
theorem zv_134 : (Jvm.Cond.selects "OrreryBoxModel$Packer" (⟨"OrreryBoxModel$Packer", "one", "(I)V"⟩ : MethodName) ⟨"OrreryBoxModel$Packer", "one", "(I)V"⟩) ∈ gw := gw_s 134 (by decide +kernel) rfl
theorem zs_MPacker_105 : zwV "OrreryBoxModel$Packer" 105 "OrreryBoxModel$Packer" zy_MPacker_one zb_MPacker_one 2 none := ⟨zw_2260, zw_2262, zv_134, zw_16, zc_MPacker_one⟩
theorem zw_2244 : (Jvm.Cond.methodLink "OrreryBoxModel$Packer" (99 : Nat) ({ cls := "OrreryBoxModel$Packer", name := "run", desc := "(I)V" } : Jvm.MethodName)) ∈ gw := gw_t 2244 (by decide +kernel) rfl
theorem zw_2246 : (Jvm.Cond.instanceMethod ({ cls := "OrreryBoxModel$Packer", name := "run", desc := "(I)V" } : Jvm.MethodName)) ∈ gw := gw_t 2246 (by decide +kernel) rfl
theorem zv_130 : (Jvm.Cond.selects "OrreryBoxModel$Packer" (⟨"OrreryBoxModel$Packer", "run", "(I)V"⟩ : MethodName) ⟨"OrreryBoxModel$Packer", "run", "(I)V"⟩) ∈ gw := gw_s 130 (by decide +kernel) rfl
theorem zs_MPacker_99 : zwV "OrreryBoxModel$Packer" 99 "OrreryBoxModel$Packer" zy_MPacker_run zb_MPacker_run 8 none := ⟨zw_2244, zw_2246, zv_130, zw_16, zc_MPacker_run⟩
theorem zw_2256 : (Jvm.Cond.methodLink "OrreryBoxModel$Packer" (102 : Nat) ({ cls := "OrreryBoxModel$Packer", name := "distance", desc := "(I)V" } : Jvm.MethodName)) ∈ gw := gw_t 2256 (by decide +kernel) rfl
theorem zw_2258 : (Jvm.Cond.instanceMethod ({ cls := "OrreryBoxModel$Packer", name := "distance", desc := "(I)V" } : Jvm.MethodName)) ∈ gw := gw_t 2258 (by decide +kernel) rfl
theorem zv_133 : (Jvm.Cond.selects "OrreryBoxModel$Packer" (⟨"OrreryBoxModel$Packer", "distance", "(I)V"⟩ : MethodName) ⟨"OrreryBoxModel$Packer", "distance", "(I)V"⟩) ∈ gw := gw_s 133 (by decide +kernel) rfl
theorem zs_MPacker_102 : zwV "OrreryBoxModel$Packer" 102 "OrreryBoxModel$Packer" zy_MPacker_distance zb_MPacker_distance 8 none := ⟨zw_2256, zw_2258, zv_133, zw_16, zc_MPacker_distance⟩
def L_MPacker_pack_22 (sh : zSh) (fuel : Nat) (v0 : Nat) (v1 : Int32) (mm : zMem) : Option (Nat × Int32 × zMem) := match fuel with
  | 0 => none
  | fu + 1 => zoS (sh v0) 12 (fun le14 => (if (mm.1 v0 1) ≤ v1 then some (v0, v1, mm) else zoL (v1 - 1) (fun x16 => Option.bind (L_MPacker_pack_39 sh zfuel v0 v1 2 0 x16 mm) (fun q23 => (if q23.2.2.1 < 3 then zoS (sh (q23.1)) 12 (fun le26 => Option.bind ((q23.2.2.2.2.2).2.2 (q23.1) 0) (fun a27 => zoS (sh a27) 100 (fun le29 => if (q23.2.1 : Int32) < 0 ∨ le29 ≤ (q23.2.1 : Int32).toNatClampNeg then none else zoS (sh (q23.1)) 12 (fun le32 => zoL ((q23.2.2.2.2.2).1 a27 (q23.2.1 : Int32).toNatClampNeg) (fun x33 => Option.bind (F_MPacker_one sh (q23.2.2.2.2.2) (q23.1) x33) (fun p34 => L_MPacker_pack_22 sh fu (q23.1) (q23.2.1 + 1) p34)))))) else zoS (sh (q23.1)) 12 (fun le36 => Option.bind (F_MPacker_run sh (q23.2.2.2.2.2) (q23.1) (q23.2.2.1)) (fun p37 => zoS (sh (q23.1)) 12 (fun le39 => Option.bind (F_MPacker_distance sh p37 (q23.1) (q23.2.1 - q23.2.2.2.1)) (fun p40 => zoL (q23.2.1 + q23.2.2.1) (fun x41 => L_MPacker_pack_22 sh fu (q23.1) x41 p40))))))))))
set_option maxHeartbeats 4000000 in
set_option maxRecDepth 100000 in
theorem lp_MPacker_pack_22 {p : Program} {l : Launch} {e : Env} {s : State} {m : MethodId} {args : Array Value} {below : List Frame} {meth : Method} {c : Code} {D : va_G} {tA : Nat → ClassId} {b n : Nat} {post : Option Value → zV → Nat → Prop} {sh : zSh} (F : zF p s m args meth c zb_MPacker_pack 6 "OrreryBoxModel$Packer" D tA b) : ∀ (fuel : Nat) (v0 : Nat) (v1 : Int32) (mm : zMem) (r : Nat × Int32 × zMem), L_MPacker_pack_22 sh fuel v0 v1 mm = some r → (Z p l e { frames := 4, cells := 0, slots := 0, locals := 92 } s m args below meth c D b 6 (MQ below (zQ D b post) args s 0 0 (fun q => b ≤ q)) (zW tA b sh r.2.2) n 0 0 120 [(0, .ref (b + (r.1))), (1, .int (r.2.1))] []) → Z p l e { frames := 4, cells := 0, slots := 0, locals := 92 } s m args below meth c D b 6 (MQ below (zQ D b post) args s 0 0 (fun q => b ≤ q)) (zW tA b sh mm) n 0 0 22 [(0, .ref (b + v0)), (1, .int v1)] [] := by
  intro fuel
  induction fuel with
  | zero =>
    intro v0 v1 mm r h
    cases h
  | succ fu ih =>
    intro v0 v1 mm r h hx0
    rw [L_MPacker_pack_22] at h
    refine zr_iload_n F zd_MPacker_pack_22 rfl ?_
    refine zr_pcn 23 rfl ?_
    refine zr_aload_n F zd_MPacker_pack_23 rfl ?_
    obtain ⟨le14, hs13, h⟩ := zoS_s h
    refine zr_get F 12 1 zd_MPacker_pack_24 (zW_o hs13 (by decide)) rfl (by decide) zw_1547 rfl (by rfl) ?_
    refine zr_icmp_ge F 120 zd_MPacker_pack_27 (by decide) (fun hb15 => ?_) (fun hb15 => ?_)
    ·
      rw [if_pos hb15] at h
      obtain rfl := Option.some.inj h
      refine zr_loc (L' := [(0, .ref (b + v0)), (1, .int v1)]) ⟨rfl, rfl, trivial⟩ ?_
      exact hx0 
    ·
      rw [if_neg hb15] at h
      refine zr_iconstv (v := 2) F zd_MPacker_pack_30 (by decide) ?_
      refine zr_istore_n F zd_MPacker_pack_31 (by decide) ?_
      refine zr_iconstv (v := 0) F zd_MPacker_pack_32 (by decide) ?_
      refine zr_istore_n F zd_MPacker_pack_33 (by decide) ?_
      refine zr_iload_n F zd_MPacker_pack_34 rfl ?_
      refine zr_pcn 35 rfl ?_
      refine zr_iconstv (v := 1) F zd_MPacker_pack_35 (by decide) ?_
      refine zr_isub F zd_MPacker_pack_36 ?_
      obtain ⟨x16, ex16, h⟩ := zoL_s h
      rw [← ex16]
      refine zr_istore F zd_MPacker_pack_37 (by decide) ?_
      obtain ⟨q23, eq23, h⟩ := zoB_s h
      refine zr_loc (L' := [(0, .ref (b + v0)), (1, .int v1), (2, .int 2), (3, .int 0), (4, .int x16)]) ⟨rfl, rfl, rfl, rfl, rfl, trivial⟩ ?_
      refine lp_MPacker_pack_39 F _ _ _ _ _ _ _ _ eq23 ?_
      ·
        refine zr_iload_n F zd_MPacker_pack_80 rfl ?_
        refine zr_iconstv (v := 3) F zd_MPacker_pack_81 (by decide) ?_
        refine zr_icmp_lt F 104 zd_MPacker_pack_82 (by decide) (fun hb24 => ?_) (fun hb24 => ?_)
        ·
          rw [if_pos hb24] at h
          refine zr_aload_n F zd_MPacker_pack_104 rfl ?_
          refine zr_aload_n F zd_MPacker_pack_105 rfl ?_
          obtain ⟨le26, hs25, h⟩ := zoS_s h
          obtain ⟨a27, ea27, h⟩ := zoB_s h
          refine zr_get F 12 0 zd_MPacker_pack_106 (zW_o hs25 (by decide)) rfl (by decide) zw_1546 rfl (by rfl) ?_
          refine zr_tor ea27 ?_
          refine zr_pcn 109 rfl ?_
          refine zr_iload_n F zd_MPacker_pack_109 rfl ?_
          obtain ⟨le29, hs28, h⟩ := zoS_s h
          obtain ⟨hi30, h⟩ := zoI_s h
          refine zr_iald F zd_MPacker_pack_110 (zW_a0 hs28) hi30 ?_
          obtain ⟨le32, hs31, h⟩ := zoS_s h
          obtain ⟨x33, ex33, h⟩ := zoL_s h
          rw [← ex33]
          obtain ⟨p34, ep34, h⟩ := zoB_s h
          refine zr_callV0 F (k_MPacker_one l D tA b sh _ ep34) zd_MPacker_pack_111 (zW_o hs31 (by decide)) rfl zs_MPacker_105 rfl zq_MPacker_one rfl rfl ⟨(Nat.le_of_ble_eq_true rfl), (Nat.le_of_ble_eq_true rfl)⟩ (Nat.le_of_ble_eq_true rfl) ⟨(Nat.le_of_ble_eq_true rfl), (Nat.le_of_ble_eq_true rfl)⟩ ?_
          refine zr_iinc (v := (q23.2.1 + 1)) F zd_MPacker_pack_114 rfl rfl (by decide) ?_
          refine zr_goto F 22 zd_MPacker_pack_117 (by decide) ?_
          refine zr_loc (L' := [(0, .ref (b + (q23.1))), (1, .int (q23.2.1 + 1))]) ⟨rfl, rfl, trivial⟩ ?_
          exact ih _ _ _ _ h hx0
        ·
          rw [if_neg hb24] at h
          refine zr_aload_n F zd_MPacker_pack_85 rfl ?_
          refine zr_iload_n F zd_MPacker_pack_86 rfl ?_
          obtain ⟨le36, hs35, h⟩ := zoS_s h
          obtain ⟨p37, ep37, h⟩ := zoB_s h
          refine zr_callV0 F (k_MPacker_run l D tA b sh _ ep37) zd_MPacker_pack_87 (zW_o hs35 (by decide)) rfl zs_MPacker_99 rfl zq_MPacker_run rfl rfl ⟨(Nat.le_of_ble_eq_true rfl), (Nat.le_of_ble_eq_true rfl)⟩ (Nat.le_of_ble_eq_true rfl) ⟨(Nat.le_of_ble_eq_true rfl), (Nat.le_of_ble_eq_true rfl)⟩ ?_
          refine zr_pcn 90 rfl ?_
          refine zr_aload_n F zd_MPacker_pack_90 rfl ?_
          refine zr_iload_n F zd_MPacker_pack_91 rfl ?_
          refine zr_iload_n F zd_MPacker_pack_92 rfl ?_
          refine zr_isub F zd_MPacker_pack_93 ?_
          obtain ⟨le39, hs38, h⟩ := zoS_s h
          obtain ⟨p40, ep40, h⟩ := zoB_s h
          refine zr_callV0 F (k_MPacker_distance l D tA b sh _ ep40) zd_MPacker_pack_94 (zW_o hs38 (by decide)) rfl zs_MPacker_102 rfl zq_MPacker_distance rfl rfl ⟨(Nat.le_of_ble_eq_true rfl), (Nat.le_of_ble_eq_true rfl)⟩ (Nat.le_of_ble_eq_true rfl) ⟨(Nat.le_of_ble_eq_true rfl), (Nat.le_of_ble_eq_true rfl)⟩ ?_
          refine zr_iload_n F zd_MPacker_pack_97 rfl ?_
          refine zr_iload_n F zd_MPacker_pack_98 rfl ?_
          refine zr_iadd F zd_MPacker_pack_99 ?_
          refine zr_pcn 100 rfl ?_
          obtain ⟨x41, ex41, h⟩ := zoL_s h
          rw [← ex41]
          refine zr_istore_n F zd_MPacker_pack_100 (by decide) ?_
          refine zr_goto F 117 zd_MPacker_pack_101 (by decide) ?_
          refine zr_goto F 22 zd_MPacker_pack_117 (by decide) ?_
          refine zr_loc (L' := [(0, .ref (b + (q23.1))), (1, .int x41)]) ⟨rfl, rfl, trivial⟩ ?_
          exact ih _ _ _ _ h hx0
def F_MPacker_pack (sh : zSh) (mm : zMem) (o : Nat) : Option zMem := zoS (sh o) 12 (fun le2 => zoL (mI mm o 4 0) (fun mm3 => zoS (sh o) 12 (fun le5 => Option.bind (F_MPacker_bit sh mm3 o 1) (fun p6 => zoS (sh o) 12 (fun le8 => Option.bind (F_MPacker_bit sh p6 o 1) (fun p9 => zoS (sh o) 12 (fun le11 => Option.bind (F_MPacker_bit sh p9 o 0) (fun p12 => Option.bind (L_MPacker_pack_22 sh zfuel o 0 p12) (fun q42 => zoS (sh (q42.1)) 12 (fun le44 => Option.bind (F_MPacker_highFirst sh (q42.2.2) (q42.1) 0 7) (fun p45 => zoS (sh (q42.1)) 12 (fun le47 => zoL (mI p45 (q42.1) 4 0) (fun mm48 => some mm48)))))))))))))
set_option maxHeartbeats 4000000 in
set_option maxRecDepth 100000 in
theorem k_MPacker_pack (l : Launch) (D : va_G) (tA : Nat → ClassId) (b : Nat) (sh : zSh) (n : Nat) {mm : zMem} {o : Nat} {r : zMem} (h : F_MPacker_pack sh mm o = some r) : zM l D tA b zy_MPacker_pack zb_MPacker_pack 6 none 4 92 0 0 [.ref (b + o)] (zW tA b sh mm) n (zE none (zW tA b sh r) n) := by
  unfold F_MPacker_pack at h
  refine zM_of (own := "OrreryBoxModel$Packer") (plainFor_of_name (by decide)) rfl (Nat.le_of_ble_eq_true rfl) (fun p e s m below meth c F hr hin hH => ?_)
  refine zr_aload_n F zd_MPacker_pack_0 rfl ?_
  refine zr_iconstv (v := 0) F zd_MPacker_pack_1 (by decide) ?_
  obtain ⟨le2, hs1, h⟩ := zoS_s h
  refine zr_put F 12 4 zd_MPacker_pack_2 (zW_o hs1 (by decide)) rfl (by decide) zw_1552 rfl rfl rfl rfl (by exact (Nat.le_of_ble_eq_true rfl)) ?_
  obtain ⟨mm3, emm3, h⟩ := zoL_s h
  refine zr_norm (zW tA b sh mm3) _ (by rw [emm3]; exact zW_pI (v := 0) hs1 (by decide) (zf_I_12_4 b _ _ _)) rfl ?_
  refine zr_aload_n F zd_MPacker_pack_5 rfl ?_
  refine zr_iconstv (v := 1) F zd_MPacker_pack_6 (by decide) ?_
  obtain ⟨le5, hs4, h⟩ := zoS_s h
  obtain ⟨p6, ep6, h⟩ := zoB_s h
  refine zr_callV0 F (k_MPacker_bit l D tA b sh _ ep6) zd_MPacker_pack_7 (zW_o hs4 (by decide)) rfl zs_MPacker_85 rfl zq_MPacker_bit rfl rfl ⟨(Nat.le_of_ble_eq_true rfl), (Nat.le_of_ble_eq_true rfl)⟩ (Nat.le_of_ble_eq_true rfl) ⟨(Nat.le_of_ble_eq_true rfl), (Nat.le_of_ble_eq_true rfl)⟩ ?_
  refine zr_aload_n F zd_MPacker_pack_10 rfl ?_
  refine zr_pcn 11 rfl ?_
  refine zr_iconstv (v := 1) F zd_MPacker_pack_11 (by decide) ?_
  obtain ⟨le8, hs7, h⟩ := zoS_s h
  obtain ⟨p9, ep9, h⟩ := zoB_s h
  refine zr_callV0 F (k_MPacker_bit l D tA b sh _ ep9) zd_MPacker_pack_12 (zW_o hs7 (by decide)) rfl zs_MPacker_85 rfl zq_MPacker_bit rfl rfl ⟨(Nat.le_of_ble_eq_true rfl), (Nat.le_of_ble_eq_true rfl)⟩ (Nat.le_of_ble_eq_true rfl) ⟨(Nat.le_of_ble_eq_true rfl), (Nat.le_of_ble_eq_true rfl)⟩ ?_
  refine zr_aload_n F zd_MPacker_pack_15 rfl ?_
  refine zr_iconstv (v := 0) F zd_MPacker_pack_16 (by decide) ?_
  obtain ⟨le11, hs10, h⟩ := zoS_s h
  obtain ⟨p12, ep12, h⟩ := zoB_s h
  refine zr_callV0 F (k_MPacker_bit l D tA b sh _ ep12) zd_MPacker_pack_17 (zW_o hs10 (by decide)) rfl zs_MPacker_85 rfl zq_MPacker_bit rfl rfl ⟨(Nat.le_of_ble_eq_true rfl), (Nat.le_of_ble_eq_true rfl)⟩ (Nat.le_of_ble_eq_true rfl) ⟨(Nat.le_of_ble_eq_true rfl), (Nat.le_of_ble_eq_true rfl)⟩ ?_
  refine zr_iconstv (v := 0) F zd_MPacker_pack_20 (by decide) ?_
  refine zr_istore_n F zd_MPacker_pack_21 (by decide) ?_
  obtain ⟨q42, eq42, h⟩ := zoB_s h
  refine zr_loc (L' := [(0, .ref (b + o)), (1, .int 0)]) ⟨rfl, rfl, trivial⟩ ?_
  refine lp_MPacker_pack_22 F _ _ _ _ _ eq42 ?_
  ·
    refine zr_aload_n F zd_MPacker_pack_120 rfl ?_
    refine zr_iconstv (v := 0) F zd_MPacker_pack_121 (by decide) ?_
    refine zr_bipushv (v := 7) F zd_MPacker_pack_122 (by decide) ?_
    obtain ⟨le44, hs43, h⟩ := zoS_s h
    obtain ⟨p45, ep45, h⟩ := zoB_s h
    refine zr_callV0 F (k_MPacker_highFirst l D tA b sh _ ep45) zd_MPacker_pack_124 (zW_o hs43 (by decide)) rfl zs_MPacker_88 rfl zq_MPacker_highFirst rfl rfl ⟨(Nat.le_of_ble_eq_true rfl), (Nat.le_of_ble_eq_true rfl)⟩ (Nat.le_of_ble_eq_true rfl) ⟨(Nat.le_of_ble_eq_true rfl), (Nat.le_of_ble_eq_true rfl)⟩ ?_
    refine zr_aload_n F zd_MPacker_pack_127 rfl ?_
    refine zr_pcn 128 rfl ?_
    refine zr_iconstv (v := 0) F zd_MPacker_pack_128 (by decide) ?_
    obtain ⟨le47, hs46, h⟩ := zoS_s h
    refine zr_put F 12 4 zd_MPacker_pack_129 (zW_o hs46 (by decide)) rfl (by decide) zw_1552 rfl rfl rfl rfl (by exact (Nat.le_of_ble_eq_true rfl)) ?_
    obtain ⟨mm48, emm48, h⟩ := zoL_s h
    refine zr_norm (zW tA b sh mm48) _ (by rw [emm48]; exact zW_pI (v := 0) hs46 (by decide) (zf_I_12_4 b _ _ _)) rfl ?_
    obtain rfl := Option.some.inj h
    exact zr_vret F hr zd_MPacker_pack_132 (Nat.le_of_ble_eq_true rfl) (Nat.le_of_ble_eq_true rfl) ⟨rfl, rfl, rfl⟩
def F_MPainter_div (sh : zSh) (mm : zMem) (x0_ : Int64) (x1_ : Int64) : Option (Int64 × zMem) := Option.bind (F_JMath_floorDiv sh mm x0_ x1_) (fun p1 => some (p1.1, p1.2))
set_option maxHeartbeats 4000000 in
set_option maxRecDepth 100000 in
theorem k_MPainter_div (l : Launch) (D : va_G) (tA : Nat → ClassId) (b : Nat) (sh : zSh) (n : Nat) {mm : zMem} {x0_ : Int64} {x1_ : Int64} {r : (Int64 × zMem)} (h : F_MPainter_div sh mm x0_ x1_ = some r) : zM l D tA b zy_MPainter_div zb_MPainter_div 4 (some .long) 1 25 0 0 [.long x0_, .long x1_] (zW tA b sh mm) n (zE (some (.long (r.1))) (zW tA b sh r.2) n) := by
  unfold F_MPainter_div at h
  refine zM_of (own := "OrreryBoxModel$Painter") (plainFor_of_name (by decide)) rfl (Nat.le_of_ble_eq_true rfl) (fun p e s m below meth c F hr hin hH => ?_)
  refine zr_lload_n F zd_MPainter_div_0 rfl ?_
  refine zr_lload_n F zd_MPainter_div_1 rfl ?_
  obtain ⟨p1, ep1, h⟩ := zoB_s h
  refine zr_callS1 F (k_JMath_floorDiv l D tA b sh _ ep1) zd_MPainter_div_2 zs_MPainter_74 zq_JMath_floorDiv rfl rfl ⟨(Nat.le_of_ble_eq_true rfl), (Nat.le_of_ble_eq_true rfl)⟩ (Nat.le_of_ble_eq_true rfl) ⟨(Nat.le_of_ble_eq_true rfl), (Nat.le_of_ble_eq_true rfl)⟩ ?_
  obtain rfl := Option.some.inj h
  exact zr_lret F hr zd_MPainter_div_5 (Nat.le_of_ble_eq_true rfl) (Nat.le_of_ble_eq_true rfl) ⟨rfl, rfl, rfl⟩
abbrev zb_MPainter_sin : ByteArray := prog_16_method_5_code
def zy_MPainter_sin : MethodName := ⟨"OrreryBoxModel$Painter", "sin", "(J)J"⟩
theorem zc_MPainter_sin : Cond.code zy_MPainter_sin zb_MPainter_sin 6 (some .long) ∈ gw := gw_t 2017 (by decide +kernel) rfl
theorem zq_MPainter_sin : zy_MPainter_sin.cls ≠ "java/lang/invoke/MethodHandle" ∧ zy_MPainter_sin.cls ≠ "java/lang/invoke/VarHandle" ∧ (parseMethodDescriptor zy_MPainter_sin.desc).map (fun d => d.parameters.length) = some 1 := by decide +kernel
theorem zd_MPainter_sin_0 : decode zb_MPainter_sin 0 = .ok (.lload_n 0, 1) := by decide +kernel
theorem zd_MPainter_sin_1 : decode zb_MPainter_sin 1 = .ok (.ldc2_w 86, 3) := by decide +kernel
theorem zd_MPainter_sin_4 : decode zb_MPainter_sin 4 = .ok (.invokestatic 88, 3) := by decide +kernel
theorem zd_MPainter_sin_7 : decode zb_MPainter_sin 7 = .ok (.lstore_n 2, 1) := by decide +kernel
theorem zd_MPainter_sin_8 : decode zb_MPainter_sin 8 = .ok (.lload_n 2, 1) := by decide +kernel
theorem zd_MPainter_sin_9 : decode zb_MPainter_sin 9 = .ok (.ldc2_w 91, 3) := by decide +kernel
theorem zd_MPainter_sin_12 : decode zb_MPainter_sin 12 = .ok (.lcmp, 1) := by decide +kernel
theorem zd_MPainter_sin_13 : decode zb_MPainter_sin 13 = .ok (.ifCond .lt 13, 3) := by decide +kernel
theorem zd_MPainter_sin_16 : decode zb_MPainter_sin 16 = .ok (.lload_n 2, 1) := by decide +kernel
theorem zd_MPainter_sin_17 : decode zb_MPainter_sin 17 = .ok (.ldc2_w 91, 3) := by decide +kernel
theorem zd_MPainter_sin_20 : decode zb_MPainter_sin 20 = .ok (.lsub, 1) := by decide +kernel
theorem zd_MPainter_sin_21 : decode zb_MPainter_sin 21 = .ok (.invokestatic 93, 3) := by decide +kernel
theorem zd_MPainter_sin_24 : decode zb_MPainter_sin 24 = .ok (.lneg, 1) := by decide +kernel
theorem zd_MPainter_sin_25 : decode zb_MPainter_sin 25 = .ok (.lreturn, 1) := by decide +kernel
theorem zd_MPainter_sin_26 : decode zb_MPainter_sin 26 = .ok (.lload_n 2, 1) := by decide +kernel
theorem zd_MPainter_sin_27 : decode zb_MPainter_sin 27 = .ok (.ldc2_w 91, 3) := by decide +kernel
theorem zd_MPainter_sin_30 : decode zb_MPainter_sin 30 = .ok (.lload_n 2, 1) := by decide +kernel
theorem zd_MPainter_sin_31 : decode zb_MPainter_sin 31 = .ok (.lsub, 1) := by decide +kernel
theorem zd_MPainter_sin_32 : decode zb_MPainter_sin 32 = .ok (.lmul, 1) := by decide +kernel
theorem zd_MPainter_sin_33 : decode zb_MPainter_sin 33 = .ok (.lstore 4, 2) := by decide +kernel
theorem zd_MPainter_sin_35 : decode zb_MPainter_sin 35 = .ok (.ldc2_w 97, 3) := by decide +kernel
theorem zd_MPainter_sin_38 : decode zb_MPainter_sin 38 = .ok (.lload 4, 2) := by decide +kernel
theorem zd_MPainter_sin_40 : decode zb_MPainter_sin 40 = .ok (.lmul, 1) := by decide +kernel
theorem zd_MPainter_sin_41 : decode zb_MPainter_sin 41 = .ok (.ldc2_w 99, 3) := by decide +kernel
theorem zd_MPainter_sin_44 : decode zb_MPainter_sin 44 = .ok (.ldc2_w 101, 3) := by decide +kernel
theorem zd_MPainter_sin_47 : decode zb_MPainter_sin 47 = .ok (.lload 4, 2) := by decide +kernel
theorem zd_MPainter_sin_49 : decode zb_MPainter_sin 49 = .ok (.lmul, 1) := by decide +kernel
theorem zd_MPainter_sin_50 : decode zb_MPainter_sin 50 = .ok (.lsub, 1) := by decide +kernel
theorem zd_MPainter_sin_51 : decode zb_MPainter_sin 51 = .ok (.invokestatic 103, 3) := by decide +kernel
theorem zd_MPainter_sin_54 : decode zb_MPainter_sin 54 = .ok (.lreturn, 1) := by decide +kernel
theorem zw_2018 : (Jvm.Cond.constantLong "OrreryBoxModel$Painter" (86 : Nat) (4096 : Int64)) ∈ gw := gw_t 2018 (by decide +kernel) rfl
theorem zw_2019 : (Jvm.Cond.methodLink "OrreryBoxModel$Painter" (88 : Nat) ({ cls := "java/lang/Math", name := "floorMod", desc := "(JJ)J" } : Jvm.MethodName)) ∈ gw := gw_t 2019 (by decide +kernel) rfl
theorem zw_2020 : (Jvm.Cond.static ({ cls := "java/lang/Math", name := "floorMod", desc := "(JJ)J" } : Jvm.MethodName)) ∈ gw := gw_t 2020 (by decide +kernel) rfl
theorem zs_MPainter_88 : zwS "OrreryBoxModel$Painter" 88 zy_JMath_floorMod zb_JMath_floorMod 6 (some .long) := ⟨zw_2019, zw_2020, zw_4, zc_JMath_floorMod⟩
theorem zw_2022 : (Jvm.Cond.constantLong "OrreryBoxModel$Painter" (91 : Nat) (2048 : Int64)) ∈ gw := gw_t 2022 (by decide +kernel) rfl
theorem zw_2023 : (Jvm.Cond.constantLong "OrreryBoxModel$Painter" (97 : Nat) (1048576 : Int64)) ∈ gw := gw_t 2023 (by decide +kernel) rfl
theorem zw_2024 : (Jvm.Cond.constantLong "OrreryBoxModel$Painter" (99 : Nat) (20971520 : Int64)) ∈ gw := gw_t 2024 (by decide +kernel) rfl
theorem zw_2025 : (Jvm.Cond.constantLong "OrreryBoxModel$Painter" (101 : Nat) (4 : Int64)) ∈ gw := gw_t 2025 (by decide +kernel) rfl
theorem zw_2026 : (Jvm.Cond.methodLink "OrreryBoxModel$Painter" (103 : Nat) ({ cls := "OrreryBoxModel$Painter", name := "div", desc := "(JJ)J" } : Jvm.MethodName)) ∈ gw := gw_t 2026 (by decide +kernel) rfl
theorem zw_2027 : (Jvm.Cond.static ({ cls := "OrreryBoxModel$Painter", name := "div", desc := "(JJ)J" } : Jvm.MethodName)) ∈ gw := gw_t 2027 (by decide +kernel) rfl
theorem zs_MPainter_103 : zwS "OrreryBoxModel$Painter" 103 zy_MPainter_div zb_MPainter_div 4 (some .long) := ⟨zw_2026, zw_2027, zw_17, zc_MPainter_div⟩
def F_MPainter_sin0 (sh : zSh) (mm : zMem) (x0_ : Int64) : Option (Int64 × zMem) := Option.bind (F_JMath_floorMod sh mm x0_ 4096) (fun p1 => (if (lg_cmp p1.1 2048) < 0 then zoL (p1.1 * (2048 - p1.1)) (fun x3 => Option.bind (F_MPainter_div sh (p1.2) (1048576 * x3) (20971520 - (4 * x3))) (fun p4 => some (p4.1, p4.2))) else none))
set_option maxHeartbeats 4000000 in
set_option maxRecDepth 100000 in
theorem k_MPainter_sin0 (l : Launch) (D : va_G) (tA : Nat → ClassId) (b : Nat) (sh : zSh) (n : Nat) {mm : zMem} {x0_ : Int64} {r : (Int64 × zMem)} (h : F_MPainter_sin0 sh mm x0_ = some r) : zM l D tA b zy_MPainter_sin zb_MPainter_sin 6 (some .long) 2 48 0 0 [.long x0_] (zW tA b sh mm) n (zE (some (.long (r.1))) (zW tA b sh r.2) n) := by
  unfold F_MPainter_sin0 at h
  refine zM_of (own := "OrreryBoxModel$Painter") (plainFor_of_name (by decide)) rfl (Nat.le_of_ble_eq_true rfl) (fun p e s m below meth c F hr hin hH => ?_)
  refine zr_lload_n F zd_MPainter_sin_0 rfl ?_
  refine zr_ldc2 F zd_MPainter_sin_1 zw_2018 ?_
  obtain ⟨p1, ep1, h⟩ := zoB_s h
  refine zr_callS1 F (k_JMath_floorMod l D tA b sh _ ep1) zd_MPainter_sin_4 zs_MPainter_88 zq_JMath_floorMod rfl rfl ⟨(Nat.le_of_ble_eq_true rfl), (Nat.le_of_ble_eq_true rfl)⟩ (Nat.le_of_ble_eq_true rfl) ⟨(Nat.le_of_ble_eq_true rfl), (Nat.le_of_ble_eq_true rfl)⟩ ?_
  refine zr_lstore_n F zd_MPainter_sin_7 (by decide) ?_
  refine zr_lload_n F zd_MPainter_sin_8 rfl ?_
  refine zr_ldc2 F zd_MPainter_sin_9 zw_2022 ?_
  refine zr_lcmp F zd_MPainter_sin_12 ?_
  refine zr_pcn 13 rfl ?_
  refine zr_if_lt F 26 zd_MPainter_sin_13 (by decide) (fun hb2 => ?_) (fun hb2 => ?_)
  ·
    rw [if_pos hb2] at h
    refine zr_lload_n F zd_MPainter_sin_26 rfl ?_
    refine zr_ldc2 F zd_MPainter_sin_27 zw_2022 ?_
    refine zr_lload_n F zd_MPainter_sin_30 rfl ?_
    refine zr_lsub F zd_MPainter_sin_31 ?_
    refine zr_lmul F zd_MPainter_sin_32 ?_
    obtain ⟨x3, ex3, h⟩ := zoL_s h
    rw [← ex3]
    refine zr_lstore F zd_MPainter_sin_33 (by decide) ?_
    refine zr_ldc2 F zd_MPainter_sin_35 zw_2023 ?_
    refine zr_pcn 38 rfl ?_
    refine zr_lload F zd_MPainter_sin_38 rfl ?_
    refine zr_lmul F zd_MPainter_sin_40 ?_
    refine zr_ldc2 F zd_MPainter_sin_41 zw_2024 ?_
    refine zr_ldc2 F zd_MPainter_sin_44 zw_2025 ?_
    refine zr_lload F zd_MPainter_sin_47 rfl ?_
    refine zr_lmul F zd_MPainter_sin_49 ?_
    refine zr_lsub F zd_MPainter_sin_50 ?_
    obtain ⟨p4, ep4, h⟩ := zoB_s h
    refine zr_callS1 F (k_MPainter_div l D tA b sh _ ep4) zd_MPainter_sin_51 zs_MPainter_103 zq_MPainter_div rfl rfl ⟨(Nat.le_of_ble_eq_true rfl), (Nat.le_of_ble_eq_true rfl)⟩ (Nat.le_of_ble_eq_true rfl) ⟨(Nat.le_of_ble_eq_true rfl), (Nat.le_of_ble_eq_true rfl)⟩ ?_
    refine zr_pcn 54 rfl ?_
    obtain rfl := Option.some.inj h
    exact zr_lret F hr zd_MPainter_sin_54 (Nat.le_of_ble_eq_true rfl) (Nat.le_of_ble_eq_true rfl) ⟨rfl, rfl, rfl⟩
  ·
    rw [if_neg hb2] at h
    refine zr_lload_n F zd_MPainter_sin_16 rfl ?_
    refine zr_ldc2 F zd_MPainter_sin_17 zw_2022 ?_
    refine zr_lsub F zd_MPainter_sin_20 ?_
    cases h
theorem zw_2015 : (Jvm.Cond.methodLink "OrreryBoxModel$Painter" (93 : Nat) ({ cls := "OrreryBoxModel$Painter", name := "sin", desc := "(J)J" } : Jvm.MethodName)) ∈ gw := gw_t 2015 (by decide +kernel) rfl
theorem zw_2016 : (Jvm.Cond.static ({ cls := "OrreryBoxModel$Painter", name := "sin", desc := "(J)J" } : Jvm.MethodName)) ∈ gw := gw_t 2016 (by decide +kernel) rfl
theorem zs_MPainter_93 : zwS "OrreryBoxModel$Painter" 93 zy_MPainter_sin zb_MPainter_sin 6 (some .long) := ⟨zw_2015, zw_2016, zw_17, zc_MPainter_sin⟩
def F_MPainter_sin (sh : zSh) (mm : zMem) (x0_ : Int64) : Option (Int64 × zMem) := Option.bind (F_JMath_floorMod sh mm x0_ 4096) (fun p1 => (if (lg_cmp p1.1 2048) < 0 then zoL (p1.1 * (2048 - p1.1)) (fun x3 => Option.bind (F_MPainter_div sh (p1.2) (1048576 * x3) (20971520 - (4 * x3))) (fun p4 => some (p4.1, p4.2))) else Option.bind (F_MPainter_sin0 sh (p1.2) (p1.1 - 2048)) (fun p5 => some ((-p5.1), p5.2))))
set_option maxHeartbeats 4000000 in
set_option maxRecDepth 100000 in
theorem k_MPainter_sin (l : Launch) (D : va_G) (tA : Nat → ClassId) (b : Nat) (sh : zSh) (n : Nat) {mm : zMem} {x0_ : Int64} {r : (Int64 × zMem)} (h : F_MPainter_sin sh mm x0_ = some r) : zM l D tA b zy_MPainter_sin zb_MPainter_sin 6 (some .long) 3 73 0 0 [.long x0_] (zW tA b sh mm) n (zE (some (.long (r.1))) (zW tA b sh r.2) n) := by
  unfold F_MPainter_sin at h
  refine zM_of (own := "OrreryBoxModel$Painter") (plainFor_of_name (by decide)) rfl (Nat.le_of_ble_eq_true rfl) (fun p e s m below meth c F hr hin hH => ?_)
  refine zr_lload_n F zd_MPainter_sin_0 rfl ?_
  refine zr_ldc2 F zd_MPainter_sin_1 zw_2018 ?_
  obtain ⟨p1, ep1, h⟩ := zoB_s h
  refine zr_callS1 F (k_JMath_floorMod l D tA b sh _ ep1) zd_MPainter_sin_4 zs_MPainter_88 zq_JMath_floorMod rfl rfl ⟨(Nat.le_of_ble_eq_true rfl), (Nat.le_of_ble_eq_true rfl)⟩ (Nat.le_of_ble_eq_true rfl) ⟨(Nat.le_of_ble_eq_true rfl), (Nat.le_of_ble_eq_true rfl)⟩ ?_
  refine zr_lstore_n F zd_MPainter_sin_7 (by decide) ?_
  refine zr_lload_n F zd_MPainter_sin_8 rfl ?_
  refine zr_ldc2 F zd_MPainter_sin_9 zw_2022 ?_
  refine zr_lcmp F zd_MPainter_sin_12 ?_
  refine zr_pcn 13 rfl ?_
  refine zr_if_lt F 26 zd_MPainter_sin_13 (by decide) (fun hb2 => ?_) (fun hb2 => ?_)
  ·
    rw [if_pos hb2] at h
    refine zr_lload_n F zd_MPainter_sin_26 rfl ?_
    refine zr_ldc2 F zd_MPainter_sin_27 zw_2022 ?_
    refine zr_lload_n F zd_MPainter_sin_30 rfl ?_
    refine zr_lsub F zd_MPainter_sin_31 ?_
    refine zr_lmul F zd_MPainter_sin_32 ?_
    obtain ⟨x3, ex3, h⟩ := zoL_s h
    rw [← ex3]
    refine zr_lstore F zd_MPainter_sin_33 (by decide) ?_
    refine zr_ldc2 F zd_MPainter_sin_35 zw_2023 ?_
    refine zr_pcn 38 rfl ?_
    refine zr_lload F zd_MPainter_sin_38 rfl ?_
    refine zr_lmul F zd_MPainter_sin_40 ?_
    refine zr_ldc2 F zd_MPainter_sin_41 zw_2024 ?_
    refine zr_ldc2 F zd_MPainter_sin_44 zw_2025 ?_
    refine zr_lload F zd_MPainter_sin_47 rfl ?_
    refine zr_lmul F zd_MPainter_sin_49 ?_
    refine zr_lsub F zd_MPainter_sin_50 ?_
    obtain ⟨p4, ep4, h⟩ := zoB_s h
    refine zr_callS1 F (k_MPainter_div l D tA b sh _ ep4) zd_MPainter_sin_51 zs_MPainter_103 zq_MPainter_div rfl rfl ⟨(Nat.le_of_ble_eq_true rfl), (Nat.le_of_ble_eq_true rfl)⟩ (Nat.le_of_ble_eq_true rfl) ⟨(Nat.le_of_ble_eq_true rfl), (Nat.le_of_ble_eq_true rfl)⟩ ?_
    refine zr_pcn 54 rfl ?_
    obtain rfl := Option.some.inj h
    exact zr_lret F hr zd_MPainter_sin_54 (Nat.le_of_ble_eq_true rfl) (Nat.le_of_ble_eq_true rfl) ⟨rfl, rfl, rfl⟩
  ·
    rw [if_neg hb2] at h
    refine zr_lload_n F zd_MPainter_sin_16 rfl ?_
    refine zr_ldc2 F zd_MPainter_sin_17 zw_2022 ?_
    refine zr_lsub F zd_MPainter_sin_20 ?_
    obtain ⟨p5, ep5, h⟩ := zoB_s h
    refine zr_callS1 F (k_MPainter_sin0 l D tA b sh _ ep5) zd_MPainter_sin_21 zs_MPainter_93 zq_MPainter_sin rfl rfl ⟨(Nat.le_of_ble_eq_true rfl), (Nat.le_of_ble_eq_true rfl)⟩ (Nat.le_of_ble_eq_true rfl) ⟨(Nat.le_of_ble_eq_true rfl), (Nat.le_of_ble_eq_true rfl)⟩ ?_
    refine zr_lneg F zd_MPainter_sin_24 ?_
    obtain rfl := Option.some.inj h
    exact zr_lret F hr zd_MPainter_sin_25 (Nat.le_of_ble_eq_true rfl) (Nat.le_of_ble_eq_true rfl) ⟨rfl, rfl, rfl⟩
abbrev zb_MPainter_cos : ByteArray := prog_16_method_6_code
def zy_MPainter_cos : MethodName := ⟨"OrreryBoxModel$Painter", "cos", "(J)J"⟩
theorem zc_MPainter_cos : Cond.code zy_MPainter_cos zb_MPainter_cos 2 (some .long) ∈ gw := gw_t 2013 (by decide +kernel) rfl
theorem zq_MPainter_cos : zy_MPainter_cos.cls ≠ "java/lang/invoke/MethodHandle" ∧ zy_MPainter_cos.cls ≠ "java/lang/invoke/VarHandle" ∧ (parseMethodDescriptor zy_MPainter_cos.desc).map (fun d => d.parameters.length) = some 1 := by decide +kernel
theorem zd_MPainter_cos_0 : decode zb_MPainter_cos 0 = .ok (.lload_n 0, 1) := by decide +kernel
theorem zd_MPainter_cos_1 : decode zb_MPainter_cos 1 = .ok (.ldc2_w 106, 3) := by decide +kernel
theorem zd_MPainter_cos_4 : decode zb_MPainter_cos 4 = .ok (.ladd, 1) := by decide +kernel
theorem zd_MPainter_cos_5 : decode zb_MPainter_cos 5 = .ok (.invokestatic 93, 3) := by decide +kernel
theorem zd_MPainter_cos_8 : decode zb_MPainter_cos 8 = .ok (.lreturn, 1) := by decide +kernel
theorem zw_2014 : (Jvm.Cond.constantLong "OrreryBoxModel$Painter" (106 : Nat) (1024 : Int64)) ∈ gw := gw_t 2014 (by decide +kernel) rfl
def F_MPainter_cos (sh : zSh) (mm : zMem) (x0_ : Int64) : Option (Int64 × zMem) := Option.bind (F_MPainter_sin sh mm (x0_ + 1024)) (fun p1 => some (p1.1, p1.2))
set_option maxHeartbeats 4000000 in
set_option maxRecDepth 100000 in
theorem k_MPainter_cos (l : Launch) (D : va_G) (tA : Nat → ClassId) (b : Nat) (sh : zSh) (n : Nat) {mm : zMem} {x0_ : Int64} {r : (Int64 × zMem)} (h : F_MPainter_cos sh mm x0_ = some r) : zM l D tA b zy_MPainter_cos zb_MPainter_cos 2 (some .long) 4 98 0 0 [.long x0_] (zW tA b sh mm) n (zE (some (.long (r.1))) (zW tA b sh r.2) n) := by
  unfold F_MPainter_cos at h
  refine zM_of (own := "OrreryBoxModel$Painter") (plainFor_of_name (by decide)) rfl (Nat.le_of_ble_eq_true rfl) (fun p e s m below meth c F hr hin hH => ?_)
  refine zr_lload_n F zd_MPainter_cos_0 rfl ?_
  refine zr_ldc2 F zd_MPainter_cos_1 zw_2014 ?_
  refine zr_ladd F zd_MPainter_cos_4 ?_
  obtain ⟨p1, ep1, h⟩ := zoB_s h
  refine zr_callS1 F (k_MPainter_sin l D tA b sh _ ep1) zd_MPainter_cos_5 zs_MPainter_93 zq_MPainter_sin rfl rfl ⟨(Nat.le_of_ble_eq_true rfl), (Nat.le_of_ble_eq_true rfl)⟩ (Nat.le_of_ble_eq_true rfl) ⟨(Nat.le_of_ble_eq_true rfl), (Nat.le_of_ble_eq_true rfl)⟩ ?_
  obtain rfl := Option.some.inj h
  exact zr_lret F hr zd_MPainter_cos_8 (Nat.le_of_ble_eq_true rfl) (Nat.le_of_ble_eq_true rfl) ⟨rfl, rfl, rfl⟩
abbrev zb_MPainter_times : ByteArray := prog_16_method_7_code
def zy_MPainter_times : MethodName := ⟨"OrreryBoxModel$Painter", "times", "([J[J)V"⟩
theorem zc_MPainter_times : Cond.code zy_MPainter_times zb_MPainter_times 7 none ∈ gw := gw_t 2032 (by decide +kernel) rfl
theorem zq_MPainter_times : zy_MPainter_times.cls ≠ "java/lang/invoke/MethodHandle" ∧ zy_MPainter_times.cls ≠ "java/lang/invoke/VarHandle" ∧ (parseMethodDescriptor zy_MPainter_times.desc).map (fun d => d.parameters.length) = some 2 := by decide +kernel
theorem zd_MPainter_times_0 : decode zb_MPainter_times 0 = .ok (.iconst 0, 1) := by decide +kernel
theorem zd_MPainter_times_1 : decode zb_MPainter_times 1 = .ok (.istore_n 3, 1) := by decide +kernel
theorem zd_MPainter_times_2 : decode zb_MPainter_times 2 = .ok (.iload_n 3, 1) := by decide +kernel
theorem zd_MPainter_times_3 : decode zb_MPainter_times 3 = .ok (.iconst 3, 1) := by decide +kernel
theorem zd_MPainter_times_4 : decode zb_MPainter_times 4 = .ok (.if_icmp .ge 107, 3) := by decide +kernel
theorem zd_MPainter_times_7 : decode zb_MPainter_times 7 = .ok (.iconst 0, 1) := by decide +kernel
theorem zd_MPainter_times_8 : decode zb_MPainter_times 8 = .ok (.istore 4, 2) := by decide +kernel
theorem zd_MPainter_times_10 : decode zb_MPainter_times 10 = .ok (.iload 4, 2) := by decide +kernel
theorem zd_MPainter_times_12 : decode zb_MPainter_times 12 = .ok (.iconst 4, 1) := by decide +kernel
theorem zd_MPainter_times_13 : decode zb_MPainter_times 13 = .ok (.if_icmp .ge 92, 3) := by decide +kernel
theorem zd_MPainter_times_16 : decode zb_MPainter_times 16 = .ok (.aload_n 1, 1) := by decide +kernel
theorem zd_MPainter_times_17 : decode zb_MPainter_times 17 = .ok (.iconst 4, 1) := by decide +kernel
theorem zd_MPainter_times_18 : decode zb_MPainter_times 18 = .ok (.iload_n 3, 1) := by decide +kernel
theorem zd_MPainter_times_19 : decode zb_MPainter_times 19 = .ok (.imul, 1) := by decide +kernel
theorem zd_MPainter_times_20 : decode zb_MPainter_times 20 = .ok (.laload, 1) := by decide +kernel
theorem zd_MPainter_times_21 : decode zb_MPainter_times 21 = .ok (.aload_n 2, 1) := by decide +kernel
theorem zd_MPainter_times_22 : decode zb_MPainter_times 22 = .ok (.iload 4, 2) := by decide +kernel
theorem zd_MPainter_times_24 : decode zb_MPainter_times 24 = .ok (.laload, 1) := by decide +kernel
theorem zd_MPainter_times_25 : decode zb_MPainter_times 25 = .ok (.invokestatic 108, 3) := by decide +kernel
theorem zd_MPainter_times_28 : decode zb_MPainter_times 28 = .ok (.aload_n 1, 1) := by decide +kernel
theorem zd_MPainter_times_29 : decode zb_MPainter_times 29 = .ok (.iconst 4, 1) := by decide +kernel
theorem zd_MPainter_times_30 : decode zb_MPainter_times 30 = .ok (.iload_n 3, 1) := by decide +kernel
theorem zd_MPainter_times_31 : decode zb_MPainter_times 31 = .ok (.imul, 1) := by decide +kernel
theorem zd_MPainter_times_32 : decode zb_MPainter_times 32 = .ok (.iconst 1, 1) := by decide +kernel
theorem zd_MPainter_times_33 : decode zb_MPainter_times 33 = .ok (.iadd, 1) := by decide +kernel
theorem zd_MPainter_times_34 : decode zb_MPainter_times 34 = .ok (.laload, 1) := by decide +kernel
theorem zd_MPainter_times_35 : decode zb_MPainter_times 35 = .ok (.aload_n 2, 1) := by decide +kernel
theorem zd_MPainter_times_36 : decode zb_MPainter_times 36 = .ok (.iconst 4, 1) := by decide +kernel
theorem zd_MPainter_times_37 : decode zb_MPainter_times 37 = .ok (.iload 4, 2) := by decide +kernel
theorem zd_MPainter_times_39 : decode zb_MPainter_times 39 = .ok (.iadd, 1) := by decide +kernel
theorem zd_MPainter_times_40 : decode zb_MPainter_times 40 = .ok (.laload, 1) := by decide +kernel
theorem zd_MPainter_times_41 : decode zb_MPainter_times 41 = .ok (.invokestatic 108, 3) := by decide +kernel
theorem zd_MPainter_times_44 : decode zb_MPainter_times 44 = .ok (.ladd, 1) := by decide +kernel
theorem zd_MPainter_times_45 : decode zb_MPainter_times 45 = .ok (.aload_n 1, 1) := by decide +kernel
theorem zd_MPainter_times_46 : decode zb_MPainter_times 46 = .ok (.iconst 4, 1) := by decide +kernel
theorem zd_MPainter_times_47 : decode zb_MPainter_times 47 = .ok (.iload_n 3, 1) := by decide +kernel
theorem zd_MPainter_times_48 : decode zb_MPainter_times 48 = .ok (.imul, 1) := by decide +kernel
theorem zd_MPainter_times_49 : decode zb_MPainter_times 49 = .ok (.iconst 2, 1) := by decide +kernel
theorem zd_MPainter_times_50 : decode zb_MPainter_times 50 = .ok (.iadd, 1) := by decide +kernel
theorem zd_MPainter_times_51 : decode zb_MPainter_times 51 = .ok (.laload, 1) := by decide +kernel
theorem zd_MPainter_times_52 : decode zb_MPainter_times 52 = .ok (.aload_n 2, 1) := by decide +kernel
theorem zd_MPainter_times_53 : decode zb_MPainter_times 53 = .ok (.bipush 8, 2) := by decide +kernel
theorem zd_MPainter_times_55 : decode zb_MPainter_times 55 = .ok (.iload 4, 2) := by decide +kernel
theorem zd_MPainter_times_57 : decode zb_MPainter_times 57 = .ok (.iadd, 1) := by decide +kernel
theorem zd_MPainter_times_58 : decode zb_MPainter_times 58 = .ok (.laload, 1) := by decide +kernel
theorem zd_MPainter_times_59 : decode zb_MPainter_times 59 = .ok (.invokestatic 108, 3) := by decide +kernel
theorem zd_MPainter_times_62 : decode zb_MPainter_times 62 = .ok (.ladd, 1) := by decide +kernel
theorem zd_MPainter_times_63 : decode zb_MPainter_times 63 = .ok (.lstore 5, 2) := by decide +kernel
theorem zd_MPainter_times_65 : decode zb_MPainter_times 65 = .ok (.aload_n 0, 1) := by decide +kernel
theorem zd_MPainter_times_66 : decode zb_MPainter_times 66 = .ok (.getfield 27, 3) := by decide +kernel
theorem zd_MPainter_times_69 : decode zb_MPainter_times 69 = .ok (.iconst 4, 1) := by decide +kernel
theorem zd_MPainter_times_70 : decode zb_MPainter_times 70 = .ok (.iload_n 3, 1) := by decide +kernel
theorem zd_MPainter_times_71 : decode zb_MPainter_times 71 = .ok (.imul, 1) := by decide +kernel
theorem zd_MPainter_times_72 : decode zb_MPainter_times 72 = .ok (.iload 4, 2) := by decide +kernel
theorem zd_MPainter_times_74 : decode zb_MPainter_times 74 = .ok (.iadd, 1) := by decide +kernel
theorem zd_MPainter_times_75 : decode zb_MPainter_times 75 = .ok (.lload 5, 2) := by decide +kernel
theorem zd_MPainter_times_77 : decode zb_MPainter_times 77 = .ok (.iload 4, 2) := by decide +kernel
theorem zd_MPainter_times_79 : decode zb_MPainter_times 79 = .ok (.iconst 3, 1) := by decide +kernel
theorem zd_MPainter_times_80 : decode zb_MPainter_times 80 = .ok (.if_icmp .ne 13, 3) := by decide +kernel
theorem zd_MPainter_times_83 : decode zb_MPainter_times 83 = .ok (.aload_n 1, 1) := by decide +kernel
theorem zd_MPainter_times_84 : decode zb_MPainter_times 84 = .ok (.iconst 4, 1) := by decide +kernel
theorem zd_MPainter_times_85 : decode zb_MPainter_times 85 = .ok (.iload_n 3, 1) := by decide +kernel
theorem zd_MPainter_times_86 : decode zb_MPainter_times 86 = .ok (.imul, 1) := by decide +kernel
theorem zd_MPainter_times_87 : decode zb_MPainter_times 87 = .ok (.iconst 3, 1) := by decide +kernel
theorem zd_MPainter_times_88 : decode zb_MPainter_times 88 = .ok (.iadd, 1) := by decide +kernel
theorem zd_MPainter_times_89 : decode zb_MPainter_times 89 = .ok (.laload, 1) := by decide +kernel
theorem zd_MPainter_times_90 : decode zb_MPainter_times 90 = .ok (.goto 4, 3) := by decide +kernel
theorem zd_MPainter_times_93 : decode zb_MPainter_times 93 = .ok (.lconst 0, 1) := by decide +kernel
theorem zd_MPainter_times_94 : decode zb_MPainter_times 94 = .ok (.ladd, 1) := by decide +kernel
theorem zd_MPainter_times_95 : decode zb_MPainter_times 95 = .ok (.invokestatic 111, 3) := by decide +kernel
theorem zd_MPainter_times_98 : decode zb_MPainter_times 98 = .ok (.lastore, 1) := by decide +kernel
theorem zd_MPainter_times_99 : decode zb_MPainter_times 99 = .ok (.iinc 4 1, 3) := by decide +kernel
theorem zd_MPainter_times_102 : decode zb_MPainter_times 102 = .ok (.goto (-92), 3) := by decide +kernel
theorem zd_MPainter_times_105 : decode zb_MPainter_times 105 = .ok (.iinc 3 1, 3) := by decide +kernel
theorem zd_MPainter_times_108 : decode zb_MPainter_times 108 = .ok (.goto (-106), 3) := by decide +kernel
theorem zd_MPainter_times_111 : decode zb_MPainter_times 111 = .ok (.iconst 0, 1) := by decide +kernel
theorem zd_MPainter_times_112 : decode zb_MPainter_times 112 = .ok (.istore_n 3, 1) := by decide +kernel
theorem zd_MPainter_times_113 : decode zb_MPainter_times 113 = .ok (.iload_n 3, 1) := by decide +kernel
theorem zd_MPainter_times_114 : decode zb_MPainter_times 114 = .ok (.bipush 12, 2) := by decide +kernel
theorem zd_MPainter_times_116 : decode zb_MPainter_times 116 = .ok (.if_icmp .ge 18, 3) := by decide +kernel
theorem zd_MPainter_times_119 : decode zb_MPainter_times 119 = .ok (.aload_n 1, 1) := by decide +kernel
theorem zd_MPainter_times_120 : decode zb_MPainter_times 120 = .ok (.iload_n 3, 1) := by decide +kernel
theorem zd_MPainter_times_121 : decode zb_MPainter_times 121 = .ok (.aload_n 0, 1) := by decide +kernel
theorem zd_MPainter_times_122 : decode zb_MPainter_times 122 = .ok (.getfield 27, 3) := by decide +kernel
theorem zd_MPainter_times_125 : decode zb_MPainter_times 125 = .ok (.iload_n 3, 1) := by decide +kernel
theorem zd_MPainter_times_126 : decode zb_MPainter_times 126 = .ok (.laload, 1) := by decide +kernel
theorem zd_MPainter_times_127 : decode zb_MPainter_times 127 = .ok (.lastore, 1) := by decide +kernel
theorem zd_MPainter_times_128 : decode zb_MPainter_times 128 = .ok (.iinc 3 1, 3) := by decide +kernel
theorem zd_MPainter_times_131 : decode zb_MPainter_times 131 = .ok (.goto (-18), 3) := by decide +kernel
theorem zd_MPainter_times_134 : decode zb_MPainter_times 134 = .ok (.return_, 1) := by decide +kernel
theorem zw_2033 : (Jvm.Cond.methodLink "OrreryBoxModel$Painter" (108 : Nat) ({ cls := "OrreryBoxModel$Painter", name := "mul", desc := "(JJ)J" } : Jvm.MethodName)) ∈ gw := gw_t 2033 (by decide +kernel) rfl
theorem zw_1950 : (Jvm.Cond.static ({ cls := "OrreryBoxModel$Painter", name := "mul", desc := "(JJ)J" } : Jvm.MethodName)) ∈ gw := gw_t 1950 (by decide +kernel) rfl
theorem zs_MPainter_108 : zwS "OrreryBoxModel$Painter" 108 zy_MPainter_mul zb_MPainter_mul 4 (some .long) := ⟨zw_2033, zw_1950, zw_17, zc_MPainter_mul⟩
theorem zw_2034 : (Jvm.Cond.methodLink "OrreryBoxModel$Painter" (111 : Nat) ({ cls := "OrreryBoxModel$Painter", name := "bound", desc := "(J)J" } : Jvm.MethodName)) ∈ gw := gw_t 2034 (by decide +kernel) rfl
theorem zw_2035 : (Jvm.Cond.static ({ cls := "OrreryBoxModel$Painter", name := "bound", desc := "(J)J" } : Jvm.MethodName)) ∈ gw := gw_t 2035 (by decide +kernel) rfl
theorem zs_MPainter_111 : zwS "OrreryBoxModel$Painter" 111 zy_MPainter_bound zb_MPainter_bound 2 (some .long) := ⟨zw_2034, zw_2035, zw_17, zc_MPainter_bound⟩
def L_MPainter_times_10 (sh : zSh) (fuel : Nat) (v0 : Nat) (v1 : Nat) (v2 : Nat) (v3 : Int32) (v4 : Int32) (mm : zMem) : Option (Nat × Nat × Nat × Int32 × Int32 × zMem) := match fuel with
  | 0 => none
  | fu + 1 => (if 4 ≤ v4 then some (v0, v1, v2, v3, v4, mm) else zoL (4 * v3) (fun i3 => zoS (sh v1) 102 (fun le5 => if (i3 : Int32) < 0 ∨ le5 ≤ (i3 : Int32).toNatClampNeg then none else zoS (sh v2) 102 (fun le8 => if (v4 : Int32) < 0 ∨ le8 ≤ (v4 : Int32).toNatClampNeg then none else zoL (mm.2.1 v1 (i3 : Int32).toNatClampNeg) (fun x10 => zoL (mm.2.1 v2 (v4 : Int32).toNatClampNeg) (fun x11 => zoL ((4 * v3) + 1) (fun i13 => zoS (sh v1) 102 (fun le15 => if (i13 : Int32) < 0 ∨ le15 ≤ (i13 : Int32).toNatClampNeg then none else zoL (4 + v4) (fun i17 => zoS (sh v2) 102 (fun le19 => if (i17 : Int32) < 0 ∨ le19 ≤ (i17 : Int32).toNatClampNeg then none else zoL (mm.2.1 v1 (i13 : Int32).toNatClampNeg) (fun x21 => zoL (mm.2.1 v2 (i17 : Int32).toNatClampNeg) (fun x22 => zoL ((4 * v3) + 2) (fun i24 => zoS (sh v1) 102 (fun le26 => if (i24 : Int32) < 0 ∨ le26 ≤ (i24 : Int32).toNatClampNeg then none else zoL (8 + v4) (fun i28 => zoS (sh v2) 102 (fun le30 => if (i28 : Int32) < 0 ∨ le30 ≤ (i28 : Int32).toNatClampNeg then none else zoL (mm.2.1 v1 (i24 : Int32).toNatClampNeg) (fun x32 => zoL (mm.2.1 v2 (i28 : Int32).toNatClampNeg) (fun x33 => zoL (((sp_MPainter_mul x10 x11) + (sp_MPainter_mul x21 x22)) + (sp_MPainter_mul x32 x33)) (fun x35 => zoS (sh v0) 13 (fun le37 => Option.bind (mm.2.2 v0 19) (fun a38 => (if v4 = 3 then zoL ((4 * v3) + 3) (fun i47 => zoS (sh v1) 102 (fun le49 => if (i47 : Int32) < 0 ∨ le49 ≤ (i47 : Int32).toNatClampNeg then none else zoL (x35 + (mm.2.1 v1 (i47 : Int32).toNatClampNeg)) (fun x51 => zoL (sp_MPainter_bound x51) (fun x53 => zoL ((4 * v3) + v4) (fun i54 => zoS (sh a38) 102 (fun le56 => if (i54 : Int32) < 0 ∨ le56 ≤ (i54 : Int32).toNatClampNeg then none else zoL (mL mm a38 (i54 : Int32).toNatClampNeg x53) (fun mm58 => L_MPainter_times_10 sh fu v0 v1 v2 v3 (v4 + 1) mm58))))))) else zoL (sp_MPainter_bound (x35 + 0)) (fun x41 => zoL ((4 * v3) + v4) (fun i42 => zoS (sh a38) 102 (fun le44 => if (i42 : Int32) < 0 ∨ le44 ≤ (i42 : Int32).toNatClampNeg then none else zoL (mL mm a38 (i42 : Int32).toNatClampNeg x41) (fun mm46 => L_MPainter_times_10 sh fu v0 v1 v2 v3 (v4 + 1) mm46))))))))))))))))))))))))))
set_option maxHeartbeats 4000000 in
set_option maxRecDepth 100000 in
theorem lp_MPainter_times_10 {p : Program} {l : Launch} {e : Env} {s : State} {m : MethodId} {args : Array Value} {below : List Frame} {meth : Method} {c : Code} {D : va_G} {tA : Nat → ClassId} {b n : Nat} {post : Option Value → zV → Nat → Prop} {sh : zSh} (F : zF p s m args meth c zb_MPainter_times 7 "OrreryBoxModel$Painter" D tA b) : ∀ (fuel : Nat) (v0 : Nat) (v1 : Nat) (v2 : Nat) (v3 : Int32) (v4 : Int32) (mm : zMem) (r : Nat × Nat × Nat × Int32 × Int32 × zMem), L_MPainter_times_10 sh fuel v0 v1 v2 v3 v4 mm = some r → (Z p l e { frames := 2, cells := 0, slots := 0, locals := 48 } s m args below meth c D b 7 (MQ below (zQ D b post) args s 0 0 (fun q => b ≤ q)) (zW tA b sh r.2.2.2.2.2) n 0 0 105 [(0, .ref (b + (r.1))), (1, .ref (b + (r.2.1))), (2, .ref (b + (r.2.2.1))), (3, .int (r.2.2.2.1)), (4, .int (r.2.2.2.2.1))] []) → Z p l e { frames := 2, cells := 0, slots := 0, locals := 48 } s m args below meth c D b 7 (MQ below (zQ D b post) args s 0 0 (fun q => b ≤ q)) (zW tA b sh mm) n 0 0 10 [(0, .ref (b + v0)), (1, .ref (b + v1)), (2, .ref (b + v2)), (3, .int v3), (4, .int v4)] [] := by
  intro fuel
  induction fuel with
  | zero =>
    intro v0 v1 v2 v3 v4 mm r h
    cases h
  | succ fu ih =>
    intro v0 v1 v2 v3 v4 mm r h hx0
    rw [L_MPainter_times_10] at h
    refine zr_pcn 10 rfl ?_
    refine zr_iload F zd_MPainter_times_10 rfl ?_
    refine zr_iconstv (v := 4) F zd_MPainter_times_12 (by decide) ?_
    refine zr_icmp_ge F 105 zd_MPainter_times_13 (by decide) (fun hb2 => ?_) (fun hb2 => ?_)
    ·
      rw [if_pos hb2] at h
      obtain rfl := Option.some.inj h
      refine zr_loc (L' := [(0, .ref (b + v0)), (1, .ref (b + v1)), (2, .ref (b + v2)), (3, .int v3), (4, .int v4)]) ⟨rfl, rfl, rfl, rfl, rfl, trivial⟩ ?_
      exact hx0 
    ·
      rw [if_neg hb2] at h
      refine zr_aload_n F zd_MPainter_times_16 rfl ?_
      refine zr_iconstv (v := 4) F zd_MPainter_times_17 (by decide) ?_
      refine zr_iload_n F zd_MPainter_times_18 rfl ?_
      refine zr_imul F zd_MPainter_times_19 ?_
      obtain ⟨i3, ei3, h⟩ := zoL_s h
      rw [← ei3]
      obtain ⟨le5, hs4, h⟩ := zoS_s h
      obtain ⟨hi6, h⟩ := zoI_s h
      refine zr_lald F zd_MPainter_times_20 (zW_a2 hs4) hi6 ?_
      refine zr_pcn 21 rfl ?_
      refine zr_aload_n F zd_MPainter_times_21 rfl ?_
      refine zr_iload F zd_MPainter_times_22 rfl ?_
      obtain ⟨le8, hs7, h⟩ := zoS_s h
      obtain ⟨hi9, h⟩ := zoI_s h
      refine zr_lald F zd_MPainter_times_24 (zW_a2 hs7) hi9 ?_
      obtain ⟨x10, ex10, h⟩ := zoL_s h
      rw [← ex10]
      obtain ⟨x11, ex11, h⟩ := zoL_s h
      rw [← ex11]
      refine zr_callS1 F (c_MPainter_mul l D tA b _ _ x10 x11) zd_MPainter_times_25 zs_MPainter_108 zq_MPainter_mul rfl rfl ⟨(Nat.le_of_ble_eq_true rfl), (Nat.le_of_ble_eq_true rfl)⟩ (Nat.le_of_ble_eq_true rfl) ⟨(Nat.le_of_ble_eq_true rfl), (Nat.le_of_ble_eq_true rfl)⟩ ?_
      refine zr_aload_n F zd_MPainter_times_28 rfl ?_
      refine zr_iconstv (v := 4) F zd_MPainter_times_29 (by decide) ?_
      refine zr_iload_n F zd_MPainter_times_30 rfl ?_
      refine zr_imul F zd_MPainter_times_31 ?_
      refine zr_pcn 32 rfl ?_
      refine zr_iconstv (v := 1) F zd_MPainter_times_32 (by decide) ?_
      refine zr_iadd F zd_MPainter_times_33 ?_
      obtain ⟨i13, ei13, h⟩ := zoL_s h
      rw [← ei13]
      obtain ⟨le15, hs14, h⟩ := zoS_s h
      obtain ⟨hi16, h⟩ := zoI_s h
      refine zr_lald F zd_MPainter_times_34 (zW_a2 hs14) hi16 ?_
      refine zr_aload_n F zd_MPainter_times_35 rfl ?_
      refine zr_iconstv (v := 4) F zd_MPainter_times_36 (by decide) ?_
      refine zr_iload F zd_MPainter_times_37 rfl ?_
      refine zr_iadd F zd_MPainter_times_39 ?_
      obtain ⟨i17, ei17, h⟩ := zoL_s h
      rw [← ei17]
      obtain ⟨le19, hs18, h⟩ := zoS_s h
      obtain ⟨hi20, h⟩ := zoI_s h
      refine zr_lald F zd_MPainter_times_40 (zW_a2 hs18) hi20 ?_
      refine zr_pcn 41 rfl ?_
      obtain ⟨x21, ex21, h⟩ := zoL_s h
      rw [← ex21]
      obtain ⟨x22, ex22, h⟩ := zoL_s h
      rw [← ex22]
      refine zr_callS1 F (c_MPainter_mul l D tA b _ _ x21 x22) zd_MPainter_times_41 zs_MPainter_108 zq_MPainter_mul rfl rfl ⟨(Nat.le_of_ble_eq_true rfl), (Nat.le_of_ble_eq_true rfl)⟩ (Nat.le_of_ble_eq_true rfl) ⟨(Nat.le_of_ble_eq_true rfl), (Nat.le_of_ble_eq_true rfl)⟩ ?_
      refine zr_ladd F zd_MPainter_times_44 ?_
      refine zr_aload_n F zd_MPainter_times_45 rfl ?_
      refine zr_iconstv (v := 4) F zd_MPainter_times_46 (by decide) ?_
      refine zr_iload_n F zd_MPainter_times_47 rfl ?_
      refine zr_imul F zd_MPainter_times_48 ?_
      refine zr_iconstv (v := 2) F zd_MPainter_times_49 (by decide) ?_
      refine zr_iadd F zd_MPainter_times_50 ?_
      refine zr_pcn 51 rfl ?_
      obtain ⟨i24, ei24, h⟩ := zoL_s h
      rw [← ei24]
      obtain ⟨le26, hs25, h⟩ := zoS_s h
      obtain ⟨hi27, h⟩ := zoI_s h
      refine zr_lald F zd_MPainter_times_51 (zW_a2 hs25) hi27 ?_
      refine zr_aload_n F zd_MPainter_times_52 rfl ?_
      refine zr_bipushv (v := 8) F zd_MPainter_times_53 (by decide) ?_
      refine zr_iload F zd_MPainter_times_55 rfl ?_
      refine zr_iadd F zd_MPainter_times_57 ?_
      obtain ⟨i28, ei28, h⟩ := zoL_s h
      rw [← ei28]
      obtain ⟨le30, hs29, h⟩ := zoS_s h
      obtain ⟨hi31, h⟩ := zoI_s h
      refine zr_lald F zd_MPainter_times_58 (zW_a2 hs29) hi31 ?_
      obtain ⟨x32, ex32, h⟩ := zoL_s h
      rw [← ex32]
      obtain ⟨x33, ex33, h⟩ := zoL_s h
      rw [← ex33]
      refine zr_callS1 F (c_MPainter_mul l D tA b _ _ x32 x33) zd_MPainter_times_59 zs_MPainter_108 zq_MPainter_mul rfl rfl ⟨(Nat.le_of_ble_eq_true rfl), (Nat.le_of_ble_eq_true rfl)⟩ (Nat.le_of_ble_eq_true rfl) ⟨(Nat.le_of_ble_eq_true rfl), (Nat.le_of_ble_eq_true rfl)⟩ ?_
      refine zr_ladd F zd_MPainter_times_62 ?_
      refine zr_pcn 63 rfl ?_
      obtain ⟨x35, ex35, h⟩ := zoL_s h
      rw [← ex35]
      refine zr_lstore F zd_MPainter_times_63 (by decide) ?_
      refine zr_aload_n F zd_MPainter_times_65 rfl ?_
      obtain ⟨le37, hs36, h⟩ := zoS_s h
      obtain ⟨a38, ea38, h⟩ := zoB_s h
      refine zr_get F 13 19 zd_MPainter_times_66 (zW_o hs36 (by decide)) rfl (by decide) zw_1599 rfl (by rfl) ?_
      refine zr_tor ea38 ?_
      refine zr_iconstv (v := 4) F zd_MPainter_times_69 (by decide) ?_
      refine zr_iload_n F zd_MPainter_times_70 rfl ?_
      refine zr_imul F zd_MPainter_times_71 ?_
      refine zr_iload F zd_MPainter_times_72 rfl ?_
      refine zr_iadd F zd_MPainter_times_74 ?_
      refine zr_pcn 75 rfl ?_
      refine zr_lload F zd_MPainter_times_75 rfl ?_
      refine zr_iload F zd_MPainter_times_77 rfl ?_
      refine zr_iconstv (v := 3) F zd_MPainter_times_79 (by decide) ?_
      refine zr_icmp_ne F 93 zd_MPainter_times_80 (by decide) (fun hb39 => ?_) (fun hb39 => ?_)
      ·
        rw [if_neg hb39] at h
        refine zr_lconstv (v := 0) F zd_MPainter_times_93 (by decide) ?_
        refine zr_ladd F zd_MPainter_times_94 ?_
        refine zr_callS1 F (c_MPainter_bound l D tA b _ _ (x35 + 0)) zd_MPainter_times_95 zs_MPainter_111 zq_MPainter_bound rfl rfl ⟨(Nat.le_of_ble_eq_true rfl), (Nat.le_of_ble_eq_true rfl)⟩ (Nat.le_of_ble_eq_true rfl) ⟨(Nat.le_of_ble_eq_true rfl), (Nat.le_of_ble_eq_true rfl)⟩ ?_
        obtain ⟨x41, ex41, h⟩ := zoL_s h
        rw [← ex41]
        obtain ⟨i42, ei42, h⟩ := zoL_s h
        rw [← ei42]
        obtain ⟨le44, hs43, h⟩ := zoS_s h
        obtain ⟨hi45, h⟩ := zoI_s h
        refine zr_last F zd_MPainter_times_98 (zW_a2 hs43) hi45 ?_
        obtain ⟨mm46, emm46, h⟩ := zoL_s h
        refine zr_norm (zW tA b sh mm46) _ (by rw [emm46]; exact zW_s2 hs43) rfl ?_
        refine zr_pcn 99 rfl ?_
        refine zr_iinc (v := (v4 + 1)) F zd_MPainter_times_99 rfl rfl (by decide) ?_
        refine zr_goto F 10 zd_MPainter_times_102 (by decide) ?_
        refine zr_loc (L' := [(0, .ref (b + v0)), (1, .ref (b + v1)), (2, .ref (b + v2)), (3, .int v3), (4, .int (v4 + 1))]) ⟨rfl, rfl, rfl, rfl, rfl, trivial⟩ ?_
        exact ih _ _ _ _ _ _ _ h hx0
      ·
        rw [if_pos hb39] at h
        refine zr_aload_n F zd_MPainter_times_83 rfl ?_
        refine zr_iconstv (v := 4) F zd_MPainter_times_84 (by decide) ?_
        refine zr_iload_n F zd_MPainter_times_85 rfl ?_
        refine zr_imul F zd_MPainter_times_86 ?_
        refine zr_iconstv (v := 3) F zd_MPainter_times_87 (by decide) ?_
        refine zr_iadd F zd_MPainter_times_88 ?_
        refine zr_pcn 89 rfl ?_
        obtain ⟨i47, ei47, h⟩ := zoL_s h
        rw [← ei47]
        obtain ⟨le49, hs48, h⟩ := zoS_s h
        obtain ⟨hi50, h⟩ := zoI_s h
        refine zr_lald F zd_MPainter_times_89 (zW_a2 hs48) hi50 ?_
        refine zr_goto F 94 zd_MPainter_times_90 (by decide) ?_
        refine zr_ladd F zd_MPainter_times_94 ?_
        obtain ⟨x51, ex51, h⟩ := zoL_s h
        rw [← ex51]
        refine zr_callS1 F (c_MPainter_bound l D tA b _ _ x51) zd_MPainter_times_95 zs_MPainter_111 zq_MPainter_bound rfl rfl ⟨(Nat.le_of_ble_eq_true rfl), (Nat.le_of_ble_eq_true rfl)⟩ (Nat.le_of_ble_eq_true rfl) ⟨(Nat.le_of_ble_eq_true rfl), (Nat.le_of_ble_eq_true rfl)⟩ ?_
        obtain ⟨x53, ex53, h⟩ := zoL_s h
        rw [← ex53]
        obtain ⟨i54, ei54, h⟩ := zoL_s h
        rw [← ei54]
        obtain ⟨le56, hs55, h⟩ := zoS_s h
        obtain ⟨hi57, h⟩ := zoI_s h
        refine zr_last F zd_MPainter_times_98 (zW_a2 hs55) hi57 ?_
        obtain ⟨mm58, emm58, h⟩ := zoL_s h
        refine zr_norm (zW tA b sh mm58) _ (by rw [emm58]; exact zW_s2 hs55) rfl ?_
        refine zr_iinc (v := (v4 + 1)) F zd_MPainter_times_99 rfl rfl (by decide) ?_
        refine zr_goto F 10 zd_MPainter_times_102 (by decide) ?_
        refine zr_loc (L' := [(0, .ref (b + v0)), (1, .ref (b + v1)), (2, .ref (b + v2)), (3, .int v3), (4, .int (v4 + 1))]) ⟨rfl, rfl, rfl, rfl, rfl, trivial⟩ ?_
        exact ih _ _ _ _ _ _ _ h hx0
def L_MPainter_times_2 (sh : zSh) (fuel : Nat) (v0 : Nat) (v1 : Nat) (v2 : Nat) (v3 : Int32) (mm : zMem) : Option (Nat × Nat × Nat × Int32 × zMem) := match fuel with
  | 0 => none
  | fu + 1 => (if 3 ≤ v3 then some (v0, v1, v2, v3, mm) else Option.bind (L_MPainter_times_10 sh zfuel v0 v1 v2 v3 0 mm) (fun q59 => L_MPainter_times_2 sh fu (q59.1) (q59.2.1) (q59.2.2.1) (q59.2.2.2.1 + 1) (q59.2.2.2.2.2)))
set_option maxHeartbeats 4000000 in
set_option maxRecDepth 100000 in
theorem lp_MPainter_times_2 {p : Program} {l : Launch} {e : Env} {s : State} {m : MethodId} {args : Array Value} {below : List Frame} {meth : Method} {c : Code} {D : va_G} {tA : Nat → ClassId} {b n : Nat} {post : Option Value → zV → Nat → Prop} {sh : zSh} (F : zF p s m args meth c zb_MPainter_times 7 "OrreryBoxModel$Painter" D tA b) : ∀ (fuel : Nat) (v0 : Nat) (v1 : Nat) (v2 : Nat) (v3 : Int32) (mm : zMem) (r : Nat × Nat × Nat × Int32 × zMem), L_MPainter_times_2 sh fuel v0 v1 v2 v3 mm = some r → (Z p l e { frames := 2, cells := 0, slots := 0, locals := 48 } s m args below meth c D b 7 (MQ below (zQ D b post) args s 0 0 (fun q => b ≤ q)) (zW tA b sh r.2.2.2.2) n 0 0 111 [(0, .ref (b + (r.1))), (1, .ref (b + (r.2.1))), (2, .ref (b + (r.2.2.1))), (3, .int (r.2.2.2.1))] []) → Z p l e { frames := 2, cells := 0, slots := 0, locals := 48 } s m args below meth c D b 7 (MQ below (zQ D b post) args s 0 0 (fun q => b ≤ q)) (zW tA b sh mm) n 0 0 2 [(0, .ref (b + v0)), (1, .ref (b + v1)), (2, .ref (b + v2)), (3, .int v3)] [] := by
  intro fuel
  induction fuel with
  | zero =>
    intro v0 v1 v2 v3 mm r h
    cases h
  | succ fu ih =>
    intro v0 v1 v2 v3 mm r h hx0
    rw [L_MPainter_times_2] at h
    refine zr_iload_n F zd_MPainter_times_2 rfl ?_
    refine zr_iconstv (v := 3) F zd_MPainter_times_3 (by decide) ?_
    refine zr_icmp_ge F 111 zd_MPainter_times_4 (by decide) (fun hb1 => ?_) (fun hb1 => ?_)
    ·
      rw [if_pos hb1] at h
      obtain rfl := Option.some.inj h
      refine zr_loc (L' := [(0, .ref (b + v0)), (1, .ref (b + v1)), (2, .ref (b + v2)), (3, .int v3)]) ⟨rfl, rfl, rfl, rfl, trivial⟩ ?_
      exact hx0 
    ·
      rw [if_neg hb1] at h
      refine zr_iconstv (v := 0) F zd_MPainter_times_7 (by decide) ?_
      refine zr_istore F zd_MPainter_times_8 (by decide) ?_
      obtain ⟨q59, eq59, h⟩ := zoB_s h
      refine zr_loc (L' := [(0, .ref (b + v0)), (1, .ref (b + v1)), (2, .ref (b + v2)), (3, .int v3), (4, .int 0)]) ⟨rfl, rfl, rfl, rfl, rfl, trivial⟩ ?_
      refine lp_MPainter_times_10 F _ _ _ _ _ _ _ _ eq59 ?_
      ·
        refine zr_iinc (v := (q59.2.2.2.1 + 1)) F zd_MPainter_times_105 rfl rfl (by decide) ?_
        refine zr_pcn 108 rfl ?_
        refine zr_goto F 2 zd_MPainter_times_108 (by decide) ?_
        refine zr_loc (L' := [(0, .ref (b + (q59.1))), (1, .ref (b + (q59.2.1))), (2, .ref (b + (q59.2.2.1))), (3, .int (q59.2.2.2.1 + 1))]) ⟨rfl, rfl, rfl, rfl, trivial⟩ ?_
        exact ih _ _ _ _ _ _ h hx0
def L_MPainter_times_113 (sh : zSh) (fuel : Nat) (v0 : Nat) (v1 : Nat) (v3 : Int32) (mm : zMem) : Option (Nat × Nat × Int32 × zMem) := match fuel with
  | 0 => none
  | fu + 1 => (if 12 ≤ v3 then some (v0, v1, v3, mm) else zoS (sh v0) 13 (fun le63 => Option.bind (mm.2.2 v0 19) (fun a64 => zoS (sh a64) 102 (fun le66 => if (v3 : Int32) < 0 ∨ le66 ≤ (v3 : Int32).toNatClampNeg then none else zoL (mm.2.1 a64 (v3 : Int32).toNatClampNeg) (fun x68 => zoS (sh v1) 102 (fun le70 => if (v3 : Int32) < 0 ∨ le70 ≤ (v3 : Int32).toNatClampNeg then none else zoL (mL mm v1 (v3 : Int32).toNatClampNeg x68) (fun mm72 => L_MPainter_times_113 sh fu v0 v1 (v3 + 1) mm72)))))))
set_option maxHeartbeats 4000000 in
set_option maxRecDepth 100000 in
theorem lp_MPainter_times_113 {p : Program} {l : Launch} {e : Env} {s : State} {m : MethodId} {args : Array Value} {below : List Frame} {meth : Method} {c : Code} {D : va_G} {tA : Nat → ClassId} {b n : Nat} {post : Option Value → zV → Nat → Prop} {sh : zSh} (F : zF p s m args meth c zb_MPainter_times 7 "OrreryBoxModel$Painter" D tA b) : ∀ (fuel : Nat) (v0 : Nat) (v1 : Nat) (v3 : Int32) (mm : zMem) (r : Nat × Nat × Int32 × zMem), L_MPainter_times_113 sh fuel v0 v1 v3 mm = some r → (Z p l e { frames := 2, cells := 0, slots := 0, locals := 48 } s m args below meth c D b 7 (MQ below (zQ D b post) args s 0 0 (fun q => b ≤ q)) (zW tA b sh r.2.2.2) n 0 0 134 [(0, .ref (b + (r.1))), (1, .ref (b + (r.2.1))), (3, .int (r.2.2.1))] []) → Z p l e { frames := 2, cells := 0, slots := 0, locals := 48 } s m args below meth c D b 7 (MQ below (zQ D b post) args s 0 0 (fun q => b ≤ q)) (zW tA b sh mm) n 0 0 113 [(0, .ref (b + v0)), (1, .ref (b + v1)), (3, .int v3)] [] := by
  intro fuel
  induction fuel with
  | zero =>
    intro v0 v1 v3 mm r h
    cases h
  | succ fu ih =>
    intro v0 v1 v3 mm r h hx0
    rw [L_MPainter_times_113] at h
    refine zr_iload_n F zd_MPainter_times_113 rfl ?_
    refine zr_bipushv (v := 12) F zd_MPainter_times_114 (by decide) ?_
    refine zr_icmp_ge F 134 zd_MPainter_times_116 (by decide) (fun hb61 => ?_) (fun hb61 => ?_)
    ·
      rw [if_pos hb61] at h
      obtain rfl := Option.some.inj h
      refine zr_loc (L' := [(0, .ref (b + v0)), (1, .ref (b + v1)), (3, .int v3)]) ⟨rfl, rfl, rfl, trivial⟩ ?_
      exact hx0 
    ·
      rw [if_neg hb61] at h
      refine zr_aload_n F zd_MPainter_times_119 rfl ?_
      refine zr_iload_n F zd_MPainter_times_120 rfl ?_
      refine zr_pcn 121 rfl ?_
      refine zr_aload_n F zd_MPainter_times_121 rfl ?_
      obtain ⟨le63, hs62, h⟩ := zoS_s h
      obtain ⟨a64, ea64, h⟩ := zoB_s h
      refine zr_get F 13 19 zd_MPainter_times_122 (zW_o hs62 (by decide)) rfl (by decide) zw_1599 rfl (by rfl) ?_
      refine zr_tor ea64 ?_
      refine zr_iload_n F zd_MPainter_times_125 rfl ?_
      obtain ⟨le66, hs65, h⟩ := zoS_s h
      obtain ⟨hi67, h⟩ := zoI_s h
      refine zr_lald F zd_MPainter_times_126 (zW_a2 hs65) hi67 ?_
      obtain ⟨x68, ex68, h⟩ := zoL_s h
      rw [← ex68]
      obtain ⟨le70, hs69, h⟩ := zoS_s h
      obtain ⟨hi71, h⟩ := zoI_s h
      refine zr_last F zd_MPainter_times_127 (zW_a2 hs69) hi71 ?_
      obtain ⟨mm72, emm72, h⟩ := zoL_s h
      refine zr_norm (zW tA b sh mm72) _ (by rw [emm72]; exact zW_s2 hs69) rfl ?_
      refine zr_iinc (v := (v3 + 1)) F zd_MPainter_times_128 rfl rfl (by decide) ?_
      refine zr_goto F 113 zd_MPainter_times_131 (by decide) ?_
      refine zr_loc (L' := [(0, .ref (b + v0)), (1, .ref (b + v1)), (3, .int (v3 + 1))]) ⟨rfl, rfl, rfl, trivial⟩ ?_
      exact ih _ _ _ _ _ h hx0
def F_MPainter_times (sh : zSh) (mm : zMem) (o : Nat) (x0_ : Nat) (x1_ : Nat) : Option zMem := Option.bind (L_MPainter_times_2 sh zfuel o x0_ x1_ 0 mm) (fun q60 => Option.bind (L_MPainter_times_113 sh zfuel (q60.1) (q60.2.1) 0 (q60.2.2.2.2)) (fun q73 => some (q73.2.2.2)))
set_option maxHeartbeats 4000000 in
set_option maxRecDepth 100000 in
theorem k_MPainter_times (l : Launch) (D : va_G) (tA : Nat → ClassId) (b : Nat) (sh : zSh) (n : Nat) {mm : zMem} {o : Nat} {x0_ : Nat} {x1_ : Nat} {r : zMem} (h : F_MPainter_times sh mm o x0_ x1_ = some r) : zM l D tA b zy_MPainter_times zb_MPainter_times 7 none 2 48 0 0 [.ref (b + o), .ref (b + x0_), .ref (b + x1_)] (zW tA b sh mm) n (zE none (zW tA b sh r) n) := by
  unfold F_MPainter_times at h
  refine zM_of (own := "OrreryBoxModel$Painter") (plainFor_of_name (by decide)) rfl (Nat.le_of_ble_eq_true rfl) (fun p e s m below meth c F hr hin hH => ?_)
  refine zr_iconstv (v := 0) F zd_MPainter_times_0 (by decide) ?_
  refine zr_istore_n F zd_MPainter_times_1 (by decide) ?_
  obtain ⟨q60, eq60, h⟩ := zoB_s h
  refine zr_loc (L' := [(0, .ref (b + o)), (1, .ref (b + x0_)), (2, .ref (b + x1_)), (3, .int 0)]) ⟨rfl, rfl, rfl, rfl, trivial⟩ ?_
  refine lp_MPainter_times_2 F _ _ _ _ _ _ _ eq60 ?_
  ·
    refine zr_iconstv (v := 0) F zd_MPainter_times_111 (by decide) ?_
    refine zr_istore_n F zd_MPainter_times_112 (by decide) ?_
    obtain ⟨q73, eq73, h⟩ := zoB_s h
    refine zr_loc (L' := [(0, .ref (b + (q60.1))), (1, .ref (b + (q60.2.1))), (3, .int 0)]) ⟨rfl, rfl, rfl, trivial⟩ ?_
    refine lp_MPainter_times_113 F _ _ _ _ _ _ eq73 ?_
    ·
      obtain rfl := Option.some.inj h
      exact zr_vret F hr zd_MPainter_times_134 (Nat.le_of_ble_eq_true rfl) (Nat.le_of_ble_eq_true rfl) ⟨rfl, rfl, rfl⟩
abbrev zb_MPainter_one : ByteArray := prog_16_method_8_code
def zy_MPainter_one : MethodName := ⟨"OrreryBoxModel$Painter", "one", "([J)V"⟩
theorem zc_MPainter_one : Cond.code zy_MPainter_one zb_MPainter_one 2 none ∈ gw := gw_t 2010 (by decide +kernel) rfl
theorem zq_MPainter_one : zy_MPainter_one.cls ≠ "java/lang/invoke/MethodHandle" ∧ zy_MPainter_one.cls ≠ "java/lang/invoke/VarHandle" ∧ (parseMethodDescriptor zy_MPainter_one.desc).map (fun d => d.parameters.length) = some 1 := by decide +kernel
theorem zd_MPainter_one_0 : decode zb_MPainter_one 0 = .ok (.iconst 0, 1) := by decide +kernel
theorem zd_MPainter_one_1 : decode zb_MPainter_one 1 = .ok (.istore_n 1, 1) := by decide +kernel
theorem zd_MPainter_one_2 : decode zb_MPainter_one 2 = .ok (.iload_n 1, 1) := by decide +kernel
theorem zd_MPainter_one_3 : decode zb_MPainter_one 3 = .ok (.bipush 12, 2) := by decide +kernel
theorem zd_MPainter_one_5 : decode zb_MPainter_one 5 = .ok (.if_icmp .ge 25, 3) := by decide +kernel
theorem zd_MPainter_one_8 : decode zb_MPainter_one 8 = .ok (.aload_n 0, 1) := by decide +kernel
theorem zd_MPainter_one_9 : decode zb_MPainter_one 9 = .ok (.iload_n 1, 1) := by decide +kernel
theorem zd_MPainter_one_10 : decode zb_MPainter_one 10 = .ok (.iload_n 1, 1) := by decide +kernel
theorem zd_MPainter_one_11 : decode zb_MPainter_one 11 = .ok (.iconst 5, 1) := by decide +kernel
theorem zd_MPainter_one_12 : decode zb_MPainter_one 12 = .ok (.irem, 1) := by decide +kernel
theorem zd_MPainter_one_13 : decode zb_MPainter_one 13 = .ok (.ifCond .ne 9, 3) := by decide +kernel
theorem zd_MPainter_one_16 : decode zb_MPainter_one 16 = .ok (.ldc2_w 80, 3) := by decide +kernel
theorem zd_MPainter_one_19 : decode zb_MPainter_one 19 = .ok (.goto 4, 3) := by decide +kernel
theorem zd_MPainter_one_22 : decode zb_MPainter_one 22 = .ok (.lconst 0, 1) := by decide +kernel
theorem zd_MPainter_one_23 : decode zb_MPainter_one 23 = .ok (.lastore, 1) := by decide +kernel
theorem zd_MPainter_one_24 : decode zb_MPainter_one 24 = .ok (.iinc 1 1, 3) := by decide +kernel
theorem zd_MPainter_one_27 : decode zb_MPainter_one 27 = .ok (.goto (-25), 3) := by decide +kernel
theorem zd_MPainter_one_30 : decode zb_MPainter_one 30 = .ok (.return_, 1) := by decide +kernel
def L_MPainter_one_2 (sh : zSh) (fuel : Nat) (v0 : Nat) (v1 : Int32) (mm : zMem) : Option (Nat × Int32 × zMem) := match fuel with
  | 0 => none
  | fu + 1 => (if 12 ≤ v1 then some (v0, v1, mm) else (if (v1 - v1 / 5 * 5) = 0 then zoS (sh v0) 102 (fun le8 => if (v1 : Int32) < 0 ∨ le8 ≤ (v1 : Int32).toNatClampNeg then none else zoL (mL mm v0 (v1 : Int32).toNatClampNeg 65536) (fun mm10 => L_MPainter_one_2 sh fu v0 (v1 + 1) mm10)) else zoS (sh v0) 102 (fun le4 => if (v1 : Int32) < 0 ∨ le4 ≤ (v1 : Int32).toNatClampNeg then none else zoL (mL mm v0 (v1 : Int32).toNatClampNeg 0) (fun mm6 => L_MPainter_one_2 sh fu v0 (v1 + 1) mm6))))
set_option maxHeartbeats 4000000 in
set_option maxRecDepth 100000 in
theorem lp_MPainter_one_2 {p : Program} {l : Launch} {e : Env} {s : State} {m : MethodId} {args : Array Value} {below : List Frame} {meth : Method} {c : Code} {D : va_G} {tA : Nat → ClassId} {b n : Nat} {post : Option Value → zV → Nat → Prop} {sh : zSh} (F : zF p s m args meth c zb_MPainter_one 2 "OrreryBoxModel$Painter" D tA b) : ∀ (fuel : Nat) (v0 : Nat) (v1 : Int32) (mm : zMem) (r : Nat × Int32 × zMem), L_MPainter_one_2 sh fuel v0 v1 mm = some r → (Z p l e { frames := 0, cells := 0, slots := 0, locals := 0 } s m args below meth c D b 2 (MQ below (zQ D b post) args s 0 0 (fun q => b ≤ q)) (zW tA b sh r.2.2) n 0 0 30 [(0, .ref (b + (r.1))), (1, .int (r.2.1))] []) → Z p l e { frames := 0, cells := 0, slots := 0, locals := 0 } s m args below meth c D b 2 (MQ below (zQ D b post) args s 0 0 (fun q => b ≤ q)) (zW tA b sh mm) n 0 0 2 [(0, .ref (b + v0)), (1, .int v1)] [] := by
  intro fuel
  induction fuel with
  | zero =>
    intro v0 v1 mm r h
    cases h
  | succ fu ih =>
    intro v0 v1 mm r h hx0
    rw [L_MPainter_one_2] at h
    refine zr_iload_n F zd_MPainter_one_2 rfl ?_
    refine zr_bipushv (v := 12) F zd_MPainter_one_3 (by decide) ?_
    refine zr_icmp_ge F 30 zd_MPainter_one_5 (by decide) (fun hb1 => ?_) (fun hb1 => ?_)
    ·
      rw [if_pos hb1] at h
      obtain rfl := Option.some.inj h
      refine zr_loc (L' := [(0, .ref (b + v0)), (1, .int v1)]) ⟨rfl, rfl, trivial⟩ ?_
      exact hx0 
    ·
      rw [if_neg hb1] at h
      refine zr_aload_n F zd_MPainter_one_8 rfl ?_
      refine zr_iload_n F zd_MPainter_one_9 rfl ?_
      refine zr_pcn 10 rfl ?_
      refine zr_iload_n F zd_MPainter_one_10 rfl ?_
      refine zr_iconstv (v := 5) F zd_MPainter_one_11 (by decide) ?_
      refine zr_irem F zd_MPainter_one_12 (by decide) ?_
      refine zr_if_ne F 22 zd_MPainter_one_13 (by decide) (fun hb2 => ?_) (fun hb2 => ?_)
      ·
        rw [if_neg hb2] at h
        refine zr_lconstv (v := 0) F zd_MPainter_one_22 (by decide) ?_
        obtain ⟨le4, hs3, h⟩ := zoS_s h
        obtain ⟨hi5, h⟩ := zoI_s h
        refine zr_last F zd_MPainter_one_23 (zW_a2 hs3) hi5 ?_
        obtain ⟨mm6, emm6, h⟩ := zoL_s h
        refine zr_norm (zW tA b sh mm6) _ (by rw [emm6]; exact zW_s2 hs3) rfl ?_
        refine zr_iinc (v := (v1 + 1)) F zd_MPainter_one_24 rfl rfl (by decide) ?_
        refine zr_goto F 2 zd_MPainter_one_27 (by decide) ?_
        refine zr_loc (L' := [(0, .ref (b + v0)), (1, .int (v1 + 1))]) ⟨rfl, rfl, trivial⟩ ?_
        exact ih _ _ _ _ h hx0
      ·
        rw [if_pos hb2] at h
        refine zr_pcn 16 rfl ?_
        refine zr_ldc2 F zd_MPainter_one_16 zw_1952 ?_
        refine zr_goto F 23 zd_MPainter_one_19 (by decide) ?_
        obtain ⟨le8, hs7, h⟩ := zoS_s h
        obtain ⟨hi9, h⟩ := zoI_s h
        refine zr_last F zd_MPainter_one_23 (zW_a2 hs7) hi9 ?_
        obtain ⟨mm10, emm10, h⟩ := zoL_s h
        refine zr_norm (zW tA b sh mm10) _ (by rw [emm10]; exact zW_s2 hs7) rfl ?_
        refine zr_iinc (v := (v1 + 1)) F zd_MPainter_one_24 rfl rfl (by decide) ?_
        refine zr_goto F 2 zd_MPainter_one_27 (by decide) ?_
        refine zr_loc (L' := [(0, .ref (b + v0)), (1, .int (v1 + 1))]) ⟨rfl, rfl, trivial⟩ ?_
        exact ih _ _ _ _ h hx0
def F_MPainter_one (sh : zSh) (mm : zMem) (x0_ : Nat) : Option zMem := Option.bind (L_MPainter_one_2 sh zfuel x0_ 0 mm) (fun q11 => some (q11.2.2))
set_option maxHeartbeats 4000000 in
set_option maxRecDepth 100000 in
theorem k_MPainter_one (l : Launch) (D : va_G) (tA : Nat → ClassId) (b : Nat) (sh : zSh) (n : Nat) {mm : zMem} {x0_ : Nat} {r : zMem} (h : F_MPainter_one sh mm x0_ = some r) : zM l D tA b zy_MPainter_one zb_MPainter_one 2 none 0 0 0 0 [.ref (b + x0_)] (zW tA b sh mm) n (zE none (zW tA b sh r) n) := by
  unfold F_MPainter_one at h
  refine zM_of (own := "OrreryBoxModel$Painter") (plainFor_of_name (by decide)) rfl (Nat.le_of_ble_eq_true rfl) (fun p e s m below meth c F hr hin hH => ?_)
  refine zr_iconstv (v := 0) F zd_MPainter_one_0 (by decide) ?_
  refine zr_istore_n F zd_MPainter_one_1 (by decide) ?_
  obtain ⟨q11, eq11, h⟩ := zoB_s h
  refine zr_loc (L' := [(0, .ref (b + x0_)), (1, .int 0)]) ⟨rfl, rfl, trivial⟩ ?_
  refine lp_MPainter_one_2 F _ _ _ _ _ eq11 ?_
  ·
    obtain rfl := Option.some.inj h
    exact zr_vret F hr zd_MPainter_one_30 (Nat.le_of_ble_eq_true rfl) (Nat.le_of_ble_eq_true rfl) ⟨rfl, rfl, rfl⟩
abbrev zb_MPainter_about : ByteArray := prog_16_method_9_code
def zy_MPainter_about : MethodName := ⟨"OrreryBoxModel$Painter", "about", "(IJ[J)V"⟩
theorem zc_MPainter_about : Cond.code zy_MPainter_about zb_MPainter_about 6 none ∈ gw := gw_t 2007 (by decide +kernel) rfl
theorem zq_MPainter_about : zy_MPainter_about.cls ≠ "java/lang/invoke/MethodHandle" ∧ zy_MPainter_about.cls ≠ "java/lang/invoke/VarHandle" ∧ (parseMethodDescriptor zy_MPainter_about.desc).map (fun d => d.parameters.length) = some 3 := by decide +kernel
theorem zd_MPainter_about_0 : decode zb_MPainter_about 0 = .ok (.aload_n 3, 1) := by decide +kernel
theorem zd_MPainter_about_1 : decode zb_MPainter_about 1 = .ok (.invokestatic 114, 3) := by decide +kernel
theorem zd_MPainter_about_4 : decode zb_MPainter_about 4 = .ok (.iload_n 0, 1) := by decide +kernel
theorem zd_MPainter_about_5 : decode zb_MPainter_about 5 = .ok (.ifCond .ne 7, 3) := by decide +kernel
theorem zd_MPainter_about_8 : decode zb_MPainter_about 8 = .ok (.iconst 1, 1) := by decide +kernel
theorem zd_MPainter_about_9 : decode zb_MPainter_about 9 = .ok (.goto 13, 3) := by decide +kernel
theorem zd_MPainter_about_12 : decode zb_MPainter_about 12 = .ok (.iload_n 0, 1) := by decide +kernel
theorem zd_MPainter_about_13 : decode zb_MPainter_about 13 = .ok (.iconst 1, 1) := by decide +kernel
theorem zd_MPainter_about_14 : decode zb_MPainter_about 14 = .ok (.if_icmp .ne 7, 3) := by decide +kernel
theorem zd_MPainter_about_17 : decode zb_MPainter_about 17 = .ok (.iconst 2, 1) := by decide +kernel
theorem zd_MPainter_about_18 : decode zb_MPainter_about 18 = .ok (.goto 4, 3) := by decide +kernel
theorem zd_MPainter_about_21 : decode zb_MPainter_about 21 = .ok (.iconst 0, 1) := by decide +kernel
theorem zd_MPainter_about_22 : decode zb_MPainter_about 22 = .ok (.istore 4, 2) := by decide +kernel
theorem zd_MPainter_about_24 : decode zb_MPainter_about 24 = .ok (.iload_n 0, 1) := by decide +kernel
theorem zd_MPainter_about_25 : decode zb_MPainter_about 25 = .ok (.ifCond .ne 7, 3) := by decide +kernel
theorem zd_MPainter_about_28 : decode zb_MPainter_about 28 = .ok (.iconst 2, 1) := by decide +kernel
theorem zd_MPainter_about_29 : decode zb_MPainter_about 29 = .ok (.goto 13, 3) := by decide +kernel
theorem zd_MPainter_about_32 : decode zb_MPainter_about 32 = .ok (.iload_n 0, 1) := by decide +kernel
theorem zd_MPainter_about_33 : decode zb_MPainter_about 33 = .ok (.iconst 1, 1) := by decide +kernel
theorem zd_MPainter_about_34 : decode zb_MPainter_about 34 = .ok (.if_icmp .ne 7, 3) := by decide +kernel
theorem zd_MPainter_about_37 : decode zb_MPainter_about 37 = .ok (.iconst 0, 1) := by decide +kernel
theorem zd_MPainter_about_38 : decode zb_MPainter_about 38 = .ok (.goto 4, 3) := by decide +kernel
theorem zd_MPainter_about_41 : decode zb_MPainter_about 41 = .ok (.iconst 1, 1) := by decide +kernel
theorem zd_MPainter_about_42 : decode zb_MPainter_about 42 = .ok (.istore 5, 2) := by decide +kernel
theorem zd_MPainter_about_44 : decode zb_MPainter_about 44 = .ok (.aload_n 3, 1) := by decide +kernel
theorem zd_MPainter_about_45 : decode zb_MPainter_about 45 = .ok (.iconst 4, 1) := by decide +kernel
theorem zd_MPainter_about_46 : decode zb_MPainter_about 46 = .ok (.iload 4, 2) := by decide +kernel
theorem zd_MPainter_about_48 : decode zb_MPainter_about 48 = .ok (.imul, 1) := by decide +kernel
theorem zd_MPainter_about_49 : decode zb_MPainter_about 49 = .ok (.iload 4, 2) := by decide +kernel
theorem zd_MPainter_about_51 : decode zb_MPainter_about 51 = .ok (.iadd, 1) := by decide +kernel
theorem zd_MPainter_about_52 : decode zb_MPainter_about 52 = .ok (.lload_n 1, 1) := by decide +kernel
theorem zd_MPainter_about_53 : decode zb_MPainter_about 53 = .ok (.invokestatic 118, 3) := by decide +kernel
theorem zd_MPainter_about_56 : decode zb_MPainter_about 56 = .ok (.lastore, 1) := by decide +kernel
theorem zd_MPainter_about_57 : decode zb_MPainter_about 57 = .ok (.aload_n 3, 1) := by decide +kernel
theorem zd_MPainter_about_58 : decode zb_MPainter_about 58 = .ok (.iconst 4, 1) := by decide +kernel
theorem zd_MPainter_about_59 : decode zb_MPainter_about 59 = .ok (.iload 4, 2) := by decide +kernel
theorem zd_MPainter_about_61 : decode zb_MPainter_about 61 = .ok (.imul, 1) := by decide +kernel
theorem zd_MPainter_about_62 : decode zb_MPainter_about 62 = .ok (.iload 5, 2) := by decide +kernel
theorem zd_MPainter_about_64 : decode zb_MPainter_about 64 = .ok (.iadd, 1) := by decide +kernel
theorem zd_MPainter_about_65 : decode zb_MPainter_about 65 = .ok (.lload_n 1, 1) := by decide +kernel
theorem zd_MPainter_about_66 : decode zb_MPainter_about 66 = .ok (.invokestatic 93, 3) := by decide +kernel
theorem zd_MPainter_about_69 : decode zb_MPainter_about 69 = .ok (.lneg, 1) := by decide +kernel
theorem zd_MPainter_about_70 : decode zb_MPainter_about 70 = .ok (.lastore, 1) := by decide +kernel
theorem zd_MPainter_about_71 : decode zb_MPainter_about 71 = .ok (.aload_n 3, 1) := by decide +kernel
theorem zd_MPainter_about_72 : decode zb_MPainter_about 72 = .ok (.iconst 4, 1) := by decide +kernel
theorem zd_MPainter_about_73 : decode zb_MPainter_about 73 = .ok (.iload 5, 2) := by decide +kernel
theorem zd_MPainter_about_75 : decode zb_MPainter_about 75 = .ok (.imul, 1) := by decide +kernel
theorem zd_MPainter_about_76 : decode zb_MPainter_about 76 = .ok (.iload 4, 2) := by decide +kernel
theorem zd_MPainter_about_78 : decode zb_MPainter_about 78 = .ok (.iadd, 1) := by decide +kernel
theorem zd_MPainter_about_79 : decode zb_MPainter_about 79 = .ok (.lload_n 1, 1) := by decide +kernel
theorem zd_MPainter_about_80 : decode zb_MPainter_about 80 = .ok (.invokestatic 93, 3) := by decide +kernel
theorem zd_MPainter_about_83 : decode zb_MPainter_about 83 = .ok (.lastore, 1) := by decide +kernel
theorem zd_MPainter_about_84 : decode zb_MPainter_about 84 = .ok (.aload_n 3, 1) := by decide +kernel
theorem zd_MPainter_about_85 : decode zb_MPainter_about 85 = .ok (.iconst 4, 1) := by decide +kernel
theorem zd_MPainter_about_86 : decode zb_MPainter_about 86 = .ok (.iload 5, 2) := by decide +kernel
theorem zd_MPainter_about_88 : decode zb_MPainter_about 88 = .ok (.imul, 1) := by decide +kernel
theorem zd_MPainter_about_89 : decode zb_MPainter_about 89 = .ok (.iload 5, 2) := by decide +kernel
theorem zd_MPainter_about_91 : decode zb_MPainter_about 91 = .ok (.iadd, 1) := by decide +kernel
theorem zd_MPainter_about_92 : decode zb_MPainter_about 92 = .ok (.lload_n 1, 1) := by decide +kernel
theorem zd_MPainter_about_93 : decode zb_MPainter_about 93 = .ok (.invokestatic 118, 3) := by decide +kernel
theorem zd_MPainter_about_96 : decode zb_MPainter_about 96 = .ok (.lastore, 1) := by decide +kernel
theorem zd_MPainter_about_97 : decode zb_MPainter_about 97 = .ok (.return_, 1) := by decide +kernel
theorem zw_2008 : (Jvm.Cond.methodLink "OrreryBoxModel$Painter" (114 : Nat) ({ cls := "OrreryBoxModel$Painter", name := "one", desc := "([J)V" } : Jvm.MethodName)) ∈ gw := gw_t 2008 (by decide +kernel) rfl
theorem zw_2009 : (Jvm.Cond.static ({ cls := "OrreryBoxModel$Painter", name := "one", desc := "([J)V" } : Jvm.MethodName)) ∈ gw := gw_t 2009 (by decide +kernel) rfl
theorem zs_MPainter_114 : zwS "OrreryBoxModel$Painter" 114 zy_MPainter_one zb_MPainter_one 2 none := ⟨zw_2008, zw_2009, zw_17, zc_MPainter_one⟩
theorem zw_2011 : (Jvm.Cond.methodLink "OrreryBoxModel$Painter" (118 : Nat) ({ cls := "OrreryBoxModel$Painter", name := "cos", desc := "(J)J" } : Jvm.MethodName)) ∈ gw := gw_t 2011 (by decide +kernel) rfl
theorem zw_2012 : (Jvm.Cond.static ({ cls := "OrreryBoxModel$Painter", name := "cos", desc := "(J)J" } : Jvm.MethodName)) ∈ gw := gw_t 2012 (by decide +kernel) rfl
theorem zs_MPainter_118 : zwS "OrreryBoxModel$Painter" 118 zy_MPainter_cos zb_MPainter_cos 2 (some .long) := ⟨zw_2011, zw_2012, zw_17, zc_MPainter_cos⟩
def F_MPainter_about (sh : zSh) (mm : zMem) (x0_ : Int32) (x1_ : Int64) (x2_ : Nat) : Option zMem := Option.bind (F_MPainter_one sh mm x2_) (fun p1 => (if x0_ = 0 then Option.bind (F_MPainter_cos sh p1 x1_) (fun p54 => zoL ((4 * 1) + 1) (fun i55 => zoS (sh x2_) 102 (fun le57 => if (i55 : Int32) < 0 ∨ le57 ≤ (i55 : Int32).toNatClampNeg then none else zoL (mL (p54.2) x2_ (i55 : Int32).toNatClampNeg (p54.1)) (fun mm59 => Option.bind (F_MPainter_sin sh mm59 x1_) (fun p60 => zoL (-p60.1) (fun x61 => zoL ((4 * 1) + 2) (fun i62 => zoS (sh x2_) 102 (fun le64 => if (i62 : Int32) < 0 ∨ le64 ≤ (i62 : Int32).toNatClampNeg then none else zoL (mL (p60.2) x2_ (i62 : Int32).toNatClampNeg x61) (fun mm66 => Option.bind (F_MPainter_sin sh mm66 x1_) (fun p67 => zoL ((4 * 2) + 1) (fun i68 => zoS (sh x2_) 102 (fun le70 => if (i68 : Int32) < 0 ∨ le70 ≤ (i68 : Int32).toNatClampNeg then none else zoL (mL (p67.2) x2_ (i68 : Int32).toNatClampNeg (p67.1)) (fun mm72 => Option.bind (F_MPainter_cos sh mm72 x1_) (fun p73 => zoL ((4 * 2) + 2) (fun i74 => zoS (sh x2_) 102 (fun le76 => if (i74 : Int32) < 0 ∨ le76 ≤ (i74 : Int32).toNatClampNeg then none else zoL (mL (p73.2) x2_ (i74 : Int32).toNatClampNeg (p73.1)) (fun mm78 => some mm78))))))))))))))))) else (if x0_ = 1 then Option.bind (F_MPainter_cos sh p1 x1_) (fun p29 => zoL ((4 * 2) + 2) (fun i30 => zoS (sh x2_) 102 (fun le32 => if (i30 : Int32) < 0 ∨ le32 ≤ (i30 : Int32).toNatClampNeg then none else zoL (mL (p29.2) x2_ (i30 : Int32).toNatClampNeg (p29.1)) (fun mm34 => Option.bind (F_MPainter_sin sh mm34 x1_) (fun p35 => zoL (-p35.1) (fun x36 => zoL ((4 * 2) + 0) (fun i37 => zoS (sh x2_) 102 (fun le39 => if (i37 : Int32) < 0 ∨ le39 ≤ (i37 : Int32).toNatClampNeg then none else zoL (mL (p35.2) x2_ (i37 : Int32).toNatClampNeg x36) (fun mm41 => Option.bind (F_MPainter_sin sh mm41 x1_) (fun p42 => zoL ((4 * 0) + 2) (fun i43 => zoS (sh x2_) 102 (fun le45 => if (i43 : Int32) < 0 ∨ le45 ≤ (i43 : Int32).toNatClampNeg then none else zoL (mL (p42.2) x2_ (i43 : Int32).toNatClampNeg (p42.1)) (fun mm47 => Option.bind (F_MPainter_cos sh mm47 x1_) (fun p48 => zoL ((4 * 0) + 0) (fun i49 => zoS (sh x2_) 102 (fun le51 => if (i49 : Int32) < 0 ∨ le51 ≤ (i49 : Int32).toNatClampNeg then none else zoL (mL (p48.2) x2_ (i49 : Int32).toNatClampNeg (p48.1)) (fun mm53 => some mm53))))))))))))))))) else Option.bind (F_MPainter_cos sh p1 x1_) (fun p4 => zoL ((4 * 0) + 0) (fun i5 => zoS (sh x2_) 102 (fun le7 => if (i5 : Int32) < 0 ∨ le7 ≤ (i5 : Int32).toNatClampNeg then none else zoL (mL (p4.2) x2_ (i5 : Int32).toNatClampNeg (p4.1)) (fun mm9 => Option.bind (F_MPainter_sin sh mm9 x1_) (fun p10 => zoL (-p10.1) (fun x11 => zoL ((4 * 0) + 1) (fun i12 => zoS (sh x2_) 102 (fun le14 => if (i12 : Int32) < 0 ∨ le14 ≤ (i12 : Int32).toNatClampNeg then none else zoL (mL (p10.2) x2_ (i12 : Int32).toNatClampNeg x11) (fun mm16 => Option.bind (F_MPainter_sin sh mm16 x1_) (fun p17 => zoL ((4 * 1) + 0) (fun i18 => zoS (sh x2_) 102 (fun le20 => if (i18 : Int32) < 0 ∨ le20 ≤ (i18 : Int32).toNatClampNeg then none else zoL (mL (p17.2) x2_ (i18 : Int32).toNatClampNeg (p17.1)) (fun mm22 => Option.bind (F_MPainter_cos sh mm22 x1_) (fun p23 => zoL ((4 * 1) + 1) (fun i24 => zoS (sh x2_) 102 (fun le26 => if (i24 : Int32) < 0 ∨ le26 ≤ (i24 : Int32).toNatClampNeg then none else zoL (mL (p23.2) x2_ (i24 : Int32).toNatClampNeg (p23.1)) (fun mm28 => some mm28))))))))))))))))))))
set_option maxHeartbeats 4000000 in
set_option maxRecDepth 100000 in
theorem k_MPainter_about (l : Launch) (D : va_G) (tA : Nat → ClassId) (b : Nat) (sh : zSh) (n : Nat) {mm : zMem} {x0_ : Int32} {x1_ : Int64} {x2_ : Nat} {r : zMem} (h : F_MPainter_about sh mm x0_ x1_ x2_ = some r) : zM l D tA b zy_MPainter_about zb_MPainter_about 6 none 5 119 0 0 [.int x0_, .long x1_, .ref (b + x2_)] (zW tA b sh mm) n (zE none (zW tA b sh r) n) := by
  unfold F_MPainter_about at h
  refine zM_of (own := "OrreryBoxModel$Painter") (plainFor_of_name (by decide)) rfl (Nat.le_of_ble_eq_true rfl) (fun p e s m below meth c F hr hin hH => ?_)
  refine zr_aload_n F zd_MPainter_about_0 rfl ?_
  obtain ⟨p1, ep1, h⟩ := zoB_s h
  refine zr_callS0 F (k_MPainter_one l D tA b sh _ ep1) zd_MPainter_about_1 zs_MPainter_114 zq_MPainter_one rfl rfl ⟨(Nat.le_of_ble_eq_true rfl), (Nat.le_of_ble_eq_true rfl)⟩ (Nat.le_of_ble_eq_true rfl) ⟨(Nat.le_of_ble_eq_true rfl), (Nat.le_of_ble_eq_true rfl)⟩ ?_
  refine zr_iload_n F zd_MPainter_about_4 rfl ?_
  refine zr_if_ne F 12 zd_MPainter_about_5 (by decide) (fun hb2 => ?_) (fun hb2 => ?_)
  ·
    rw [if_neg hb2] at h
    refine zr_iload_n F zd_MPainter_about_12 rfl ?_
    refine zr_iconstv (v := 1) F zd_MPainter_about_13 (by decide) ?_
    refine zr_icmp_ne F 21 zd_MPainter_about_14 (by decide) (fun hb3 => ?_) (fun hb3 => ?_)
    ·
      rw [if_neg hb3] at h
      refine zr_pcn 21 rfl ?_
      refine zr_iconstv (v := 0) F zd_MPainter_about_21 (by decide) ?_
      refine zr_istore F zd_MPainter_about_22 (by decide) ?_
      refine zr_iload_n F zd_MPainter_about_24 rfl ?_
      refine zr_if_ne F 32 zd_MPainter_about_25 (by decide) (fun _ => ?_) (fun hq => absurd hq hb2)
      refine zr_iload_n F zd_MPainter_about_32 rfl ?_
      refine zr_iconstv (v := 1) F zd_MPainter_about_33 (by decide) ?_
      refine zr_icmp_ne F 41 zd_MPainter_about_34 (by decide) (fun _ => ?_) (fun hq => absurd hq hb3)
      refine zr_iconstv (v := 1) F zd_MPainter_about_41 (by decide) ?_
      refine zr_pcn 42 rfl ?_
      refine zr_istore F zd_MPainter_about_42 (by decide) ?_
      refine zr_aload_n F zd_MPainter_about_44 rfl ?_
      refine zr_iconstv (v := 4) F zd_MPainter_about_45 (by decide) ?_
      refine zr_iload F zd_MPainter_about_46 rfl ?_
      refine zr_imul F zd_MPainter_about_48 ?_
      refine zr_iload F zd_MPainter_about_49 rfl ?_
      refine zr_iadd F zd_MPainter_about_51 ?_
      refine zr_lload_n F zd_MPainter_about_52 rfl ?_
      refine zr_pcn 53 rfl ?_
      obtain ⟨p4, ep4, h⟩ := zoB_s h
      refine zr_callS1 F (k_MPainter_cos l D tA b sh _ ep4) zd_MPainter_about_53 zs_MPainter_118 zq_MPainter_cos rfl rfl ⟨(Nat.le_of_ble_eq_true rfl), (Nat.le_of_ble_eq_true rfl)⟩ (Nat.le_of_ble_eq_true rfl) ⟨(Nat.le_of_ble_eq_true rfl), (Nat.le_of_ble_eq_true rfl)⟩ ?_
      obtain ⟨i5, ei5, h⟩ := zoL_s h
      rw [← ei5]
      obtain ⟨le7, hs6, h⟩ := zoS_s h
      obtain ⟨hi8, h⟩ := zoI_s h
      refine zr_last F zd_MPainter_about_56 (zW_a2 hs6) hi8 ?_
      obtain ⟨mm9, emm9, h⟩ := zoL_s h
      refine zr_norm (zW tA b sh mm9) _ (by rw [emm9]; exact zW_s2 hs6) rfl ?_
      refine zr_aload_n F zd_MPainter_about_57 rfl ?_
      refine zr_iconstv (v := 4) F zd_MPainter_about_58 (by decide) ?_
      refine zr_iload F zd_MPainter_about_59 rfl ?_
      refine zr_imul F zd_MPainter_about_61 ?_
      refine zr_iload F zd_MPainter_about_62 rfl ?_
      refine zr_iadd F zd_MPainter_about_64 ?_
      refine zr_pcn 65 rfl ?_
      refine zr_lload_n F zd_MPainter_about_65 rfl ?_
      obtain ⟨p10, ep10, h⟩ := zoB_s h
      refine zr_callS1 F (k_MPainter_sin l D tA b sh _ ep10) zd_MPainter_about_66 zs_MPainter_93 zq_MPainter_sin rfl rfl ⟨(Nat.le_of_ble_eq_true rfl), (Nat.le_of_ble_eq_true rfl)⟩ (Nat.le_of_ble_eq_true rfl) ⟨(Nat.le_of_ble_eq_true rfl), (Nat.le_of_ble_eq_true rfl)⟩ ?_
      refine zr_lneg F zd_MPainter_about_69 ?_
      obtain ⟨x11, ex11, h⟩ := zoL_s h
      rw [← ex11]
      obtain ⟨i12, ei12, h⟩ := zoL_s h
      rw [← ei12]
      obtain ⟨le14, hs13, h⟩ := zoS_s h
      obtain ⟨hi15, h⟩ := zoI_s h
      refine zr_last F zd_MPainter_about_70 (zW_a2 hs13) hi15 ?_
      obtain ⟨mm16, emm16, h⟩ := zoL_s h
      refine zr_norm (zW tA b sh mm16) _ (by rw [emm16]; exact zW_s2 hs13) rfl ?_
      refine zr_aload_n F zd_MPainter_about_71 rfl ?_
      refine zr_iconstv (v := 4) F zd_MPainter_about_72 (by decide) ?_
      refine zr_iload F zd_MPainter_about_73 rfl ?_
      refine zr_imul F zd_MPainter_about_75 ?_
      refine zr_pcn 76 rfl ?_
      refine zr_iload F zd_MPainter_about_76 rfl ?_
      refine zr_iadd F zd_MPainter_about_78 ?_
      refine zr_lload_n F zd_MPainter_about_79 rfl ?_
      obtain ⟨p17, ep17, h⟩ := zoB_s h
      refine zr_callS1 F (k_MPainter_sin l D tA b sh _ ep17) zd_MPainter_about_80 zs_MPainter_93 zq_MPainter_sin rfl rfl ⟨(Nat.le_of_ble_eq_true rfl), (Nat.le_of_ble_eq_true rfl)⟩ (Nat.le_of_ble_eq_true rfl) ⟨(Nat.le_of_ble_eq_true rfl), (Nat.le_of_ble_eq_true rfl)⟩ ?_
      obtain ⟨i18, ei18, h⟩ := zoL_s h
      rw [← ei18]
      obtain ⟨le20, hs19, h⟩ := zoS_s h
      obtain ⟨hi21, h⟩ := zoI_s h
      refine zr_last F zd_MPainter_about_83 (zW_a2 hs19) hi21 ?_
      obtain ⟨mm22, emm22, h⟩ := zoL_s h
      refine zr_norm (zW tA b sh mm22) _ (by rw [emm22]; exact zW_s2 hs19) rfl ?_
      refine zr_aload_n F zd_MPainter_about_84 rfl ?_
      refine zr_iconstv (v := 4) F zd_MPainter_about_85 (by decide) ?_
      refine zr_iload F zd_MPainter_about_86 rfl ?_
      refine zr_pcn 88 rfl ?_
      refine zr_imul F zd_MPainter_about_88 ?_
      refine zr_iload F zd_MPainter_about_89 rfl ?_
      refine zr_iadd F zd_MPainter_about_91 ?_
      refine zr_lload_n F zd_MPainter_about_92 rfl ?_
      obtain ⟨p23, ep23, h⟩ := zoB_s h
      refine zr_callS1 F (k_MPainter_cos l D tA b sh _ ep23) zd_MPainter_about_93 zs_MPainter_118 zq_MPainter_cos rfl rfl ⟨(Nat.le_of_ble_eq_true rfl), (Nat.le_of_ble_eq_true rfl)⟩ (Nat.le_of_ble_eq_true rfl) ⟨(Nat.le_of_ble_eq_true rfl), (Nat.le_of_ble_eq_true rfl)⟩ ?_
      obtain ⟨i24, ei24, h⟩ := zoL_s h
      rw [← ei24]
      obtain ⟨le26, hs25, h⟩ := zoS_s h
      obtain ⟨hi27, h⟩ := zoI_s h
      refine zr_last F zd_MPainter_about_96 (zW_a2 hs25) hi27 ?_
      obtain ⟨mm28, emm28, h⟩ := zoL_s h
      refine zr_norm (zW tA b sh mm28) _ (by rw [emm28]; exact zW_s2 hs25) rfl ?_
      obtain rfl := Option.some.inj h
      exact zr_vret F hr zd_MPainter_about_97 (Nat.le_of_ble_eq_true rfl) (Nat.le_of_ble_eq_true rfl) ⟨rfl, rfl, rfl⟩
    ·
      rw [if_pos hb3] at h
      refine zr_iconstv (v := 2) F zd_MPainter_about_17 (by decide) ?_
      refine zr_pcn 18 rfl ?_
      refine zr_goto F 22 zd_MPainter_about_18 (by decide) ?_
      refine zr_istore F zd_MPainter_about_22 (by decide) ?_
      refine zr_iload_n F zd_MPainter_about_24 rfl ?_
      refine zr_if_ne F 32 zd_MPainter_about_25 (by decide) (fun _ => ?_) (fun hq => absurd hq (fun hq => absurd (hb3.symm.trans hq) (by decide)))
      refine zr_iload_n F zd_MPainter_about_32 rfl ?_
      refine zr_iconstv (v := 1) F zd_MPainter_about_33 (by decide) ?_
      refine zr_icmp_ne F 41 zd_MPainter_about_34 (by decide) (fun hq => absurd hb3 hq) (fun _ => ?_)
      refine zr_iconstv (v := 0) F zd_MPainter_about_37 (by decide) ?_
      refine zr_pcn 38 rfl ?_
      refine zr_goto F 42 zd_MPainter_about_38 (by decide) ?_
      refine zr_istore F zd_MPainter_about_42 (by decide) ?_
      refine zr_aload_n F zd_MPainter_about_44 rfl ?_
      refine zr_iconstv (v := 4) F zd_MPainter_about_45 (by decide) ?_
      refine zr_iload F zd_MPainter_about_46 rfl ?_
      refine zr_imul F zd_MPainter_about_48 ?_
      refine zr_iload F zd_MPainter_about_49 rfl ?_
      refine zr_iadd F zd_MPainter_about_51 ?_
      refine zr_pcn 52 rfl ?_
      refine zr_lload_n F zd_MPainter_about_52 rfl ?_
      obtain ⟨p29, ep29, h⟩ := zoB_s h
      refine zr_callS1 F (k_MPainter_cos l D tA b sh _ ep29) zd_MPainter_about_53 zs_MPainter_118 zq_MPainter_cos rfl rfl ⟨(Nat.le_of_ble_eq_true rfl), (Nat.le_of_ble_eq_true rfl)⟩ (Nat.le_of_ble_eq_true rfl) ⟨(Nat.le_of_ble_eq_true rfl), (Nat.le_of_ble_eq_true rfl)⟩ ?_
      obtain ⟨i30, ei30, h⟩ := zoL_s h
      rw [← ei30]
      obtain ⟨le32, hs31, h⟩ := zoS_s h
      obtain ⟨hi33, h⟩ := zoI_s h
      refine zr_last F zd_MPainter_about_56 (zW_a2 hs31) hi33 ?_
      obtain ⟨mm34, emm34, h⟩ := zoL_s h
      refine zr_norm (zW tA b sh mm34) _ (by rw [emm34]; exact zW_s2 hs31) rfl ?_
      refine zr_aload_n F zd_MPainter_about_57 rfl ?_
      refine zr_iconstv (v := 4) F zd_MPainter_about_58 (by decide) ?_
      refine zr_iload F zd_MPainter_about_59 rfl ?_
      refine zr_imul F zd_MPainter_about_61 ?_
      refine zr_iload F zd_MPainter_about_62 rfl ?_
      refine zr_pcn 64 rfl ?_
      refine zr_iadd F zd_MPainter_about_64 ?_
      refine zr_lload_n F zd_MPainter_about_65 rfl ?_
      obtain ⟨p35, ep35, h⟩ := zoB_s h
      refine zr_callS1 F (k_MPainter_sin l D tA b sh _ ep35) zd_MPainter_about_66 zs_MPainter_93 zq_MPainter_sin rfl rfl ⟨(Nat.le_of_ble_eq_true rfl), (Nat.le_of_ble_eq_true rfl)⟩ (Nat.le_of_ble_eq_true rfl) ⟨(Nat.le_of_ble_eq_true rfl), (Nat.le_of_ble_eq_true rfl)⟩ ?_
      refine zr_lneg F zd_MPainter_about_69 ?_
      obtain ⟨x36, ex36, h⟩ := zoL_s h
      rw [← ex36]
      obtain ⟨i37, ei37, h⟩ := zoL_s h
      rw [← ei37]
      obtain ⟨le39, hs38, h⟩ := zoS_s h
      obtain ⟨hi40, h⟩ := zoI_s h
      refine zr_last F zd_MPainter_about_70 (zW_a2 hs38) hi40 ?_
      obtain ⟨mm41, emm41, h⟩ := zoL_s h
      refine zr_norm (zW tA b sh mm41) _ (by rw [emm41]; exact zW_s2 hs38) rfl ?_
      refine zr_aload_n F zd_MPainter_about_71 rfl ?_
      refine zr_iconstv (v := 4) F zd_MPainter_about_72 (by decide) ?_
      refine zr_iload F zd_MPainter_about_73 rfl ?_
      refine zr_pcn 75 rfl ?_
      refine zr_imul F zd_MPainter_about_75 ?_
      refine zr_iload F zd_MPainter_about_76 rfl ?_
      refine zr_iadd F zd_MPainter_about_78 ?_
      refine zr_lload_n F zd_MPainter_about_79 rfl ?_
      obtain ⟨p42, ep42, h⟩ := zoB_s h
      refine zr_callS1 F (k_MPainter_sin l D tA b sh _ ep42) zd_MPainter_about_80 zs_MPainter_93 zq_MPainter_sin rfl rfl ⟨(Nat.le_of_ble_eq_true rfl), (Nat.le_of_ble_eq_true rfl)⟩ (Nat.le_of_ble_eq_true rfl) ⟨(Nat.le_of_ble_eq_true rfl), (Nat.le_of_ble_eq_true rfl)⟩ ?_
      obtain ⟨i43, ei43, h⟩ := zoL_s h
      rw [← ei43]
      obtain ⟨le45, hs44, h⟩ := zoS_s h
      obtain ⟨hi46, h⟩ := zoI_s h
      refine zr_last F zd_MPainter_about_83 (zW_a2 hs44) hi46 ?_
      obtain ⟨mm47, emm47, h⟩ := zoL_s h
      refine zr_norm (zW tA b sh mm47) _ (by rw [emm47]; exact zW_s2 hs44) rfl ?_
      refine zr_aload_n F zd_MPainter_about_84 rfl ?_
      refine zr_iconstv (v := 4) F zd_MPainter_about_85 (by decide) ?_
      refine zr_pcn 86 rfl ?_
      refine zr_iload F zd_MPainter_about_86 rfl ?_
      refine zr_imul F zd_MPainter_about_88 ?_
      refine zr_iload F zd_MPainter_about_89 rfl ?_
      refine zr_iadd F zd_MPainter_about_91 ?_
      refine zr_lload_n F zd_MPainter_about_92 rfl ?_
      obtain ⟨p48, ep48, h⟩ := zoB_s h
      refine zr_callS1 F (k_MPainter_cos l D tA b sh _ ep48) zd_MPainter_about_93 zs_MPainter_118 zq_MPainter_cos rfl rfl ⟨(Nat.le_of_ble_eq_true rfl), (Nat.le_of_ble_eq_true rfl)⟩ (Nat.le_of_ble_eq_true rfl) ⟨(Nat.le_of_ble_eq_true rfl), (Nat.le_of_ble_eq_true rfl)⟩ ?_
      obtain ⟨i49, ei49, h⟩ := zoL_s h
      rw [← ei49]
      obtain ⟨le51, hs50, h⟩ := zoS_s h
      obtain ⟨hi52, h⟩ := zoI_s h
      refine zr_last F zd_MPainter_about_96 (zW_a2 hs50) hi52 ?_
      obtain ⟨mm53, emm53, h⟩ := zoL_s h
      refine zr_norm (zW tA b sh mm53) _ (by rw [emm53]; exact zW_s2 hs50) rfl ?_
      obtain rfl := Option.some.inj h
      exact zr_vret F hr zd_MPainter_about_97 (Nat.le_of_ble_eq_true rfl) (Nat.le_of_ble_eq_true rfl) ⟨rfl, rfl, rfl⟩
  ·
    rw [if_pos hb2] at h
    refine zr_pcn 8 rfl ?_
    refine zr_iconstv (v := 1) F zd_MPainter_about_8 (by decide) ?_
    refine zr_goto F 22 zd_MPainter_about_9 (by decide) ?_
    refine zr_istore F zd_MPainter_about_22 (by decide) ?_
    refine zr_iload_n F zd_MPainter_about_24 rfl ?_
    refine zr_if_ne F 32 zd_MPainter_about_25 (by decide) (fun hq => absurd hb2 hq) (fun _ => ?_)
    refine zr_iconstv (v := 2) F zd_MPainter_about_28 (by decide) ?_
    refine zr_goto F 42 zd_MPainter_about_29 (by decide) ?_
    refine zr_istore F zd_MPainter_about_42 (by decide) ?_
    refine zr_pcn 44 rfl ?_
    refine zr_aload_n F zd_MPainter_about_44 rfl ?_
    refine zr_iconstv (v := 4) F zd_MPainter_about_45 (by decide) ?_
    refine zr_iload F zd_MPainter_about_46 rfl ?_
    refine zr_imul F zd_MPainter_about_48 ?_
    refine zr_iload F zd_MPainter_about_49 rfl ?_
    refine zr_iadd F zd_MPainter_about_51 ?_
    refine zr_lload_n F zd_MPainter_about_52 rfl ?_
    obtain ⟨p54, ep54, h⟩ := zoB_s h
    refine zr_callS1 F (k_MPainter_cos l D tA b sh _ ep54) zd_MPainter_about_53 zs_MPainter_118 zq_MPainter_cos rfl rfl ⟨(Nat.le_of_ble_eq_true rfl), (Nat.le_of_ble_eq_true rfl)⟩ (Nat.le_of_ble_eq_true rfl) ⟨(Nat.le_of_ble_eq_true rfl), (Nat.le_of_ble_eq_true rfl)⟩ ?_
    refine zr_pcn 56 rfl ?_
    obtain ⟨i55, ei55, h⟩ := zoL_s h
    rw [← ei55]
    obtain ⟨le57, hs56, h⟩ := zoS_s h
    obtain ⟨hi58, h⟩ := zoI_s h
    refine zr_last F zd_MPainter_about_56 (zW_a2 hs56) hi58 ?_
    obtain ⟨mm59, emm59, h⟩ := zoL_s h
    refine zr_norm (zW tA b sh mm59) _ (by rw [emm59]; exact zW_s2 hs56) rfl ?_
    refine zr_aload_n F zd_MPainter_about_57 rfl ?_
    refine zr_iconstv (v := 4) F zd_MPainter_about_58 (by decide) ?_
    refine zr_iload F zd_MPainter_about_59 rfl ?_
    refine zr_imul F zd_MPainter_about_61 ?_
    refine zr_iload F zd_MPainter_about_62 rfl ?_
    refine zr_iadd F zd_MPainter_about_64 ?_
    refine zr_lload_n F zd_MPainter_about_65 rfl ?_
    refine zr_pcn 66 rfl ?_
    obtain ⟨p60, ep60, h⟩ := zoB_s h
    refine zr_callS1 F (k_MPainter_sin l D tA b sh _ ep60) zd_MPainter_about_66 zs_MPainter_93 zq_MPainter_sin rfl rfl ⟨(Nat.le_of_ble_eq_true rfl), (Nat.le_of_ble_eq_true rfl)⟩ (Nat.le_of_ble_eq_true rfl) ⟨(Nat.le_of_ble_eq_true rfl), (Nat.le_of_ble_eq_true rfl)⟩ ?_
    refine zr_lneg F zd_MPainter_about_69 ?_
    obtain ⟨x61, ex61, h⟩ := zoL_s h
    rw [← ex61]
    obtain ⟨i62, ei62, h⟩ := zoL_s h
    rw [← ei62]
    obtain ⟨le64, hs63, h⟩ := zoS_s h
    obtain ⟨hi65, h⟩ := zoI_s h
    refine zr_last F zd_MPainter_about_70 (zW_a2 hs63) hi65 ?_
    obtain ⟨mm66, emm66, h⟩ := zoL_s h
    refine zr_norm (zW tA b sh mm66) _ (by rw [emm66]; exact zW_s2 hs63) rfl ?_
    refine zr_aload_n F zd_MPainter_about_71 rfl ?_
    refine zr_iconstv (v := 4) F zd_MPainter_about_72 (by decide) ?_
    refine zr_iload F zd_MPainter_about_73 rfl ?_
    refine zr_imul F zd_MPainter_about_75 ?_
    refine zr_iload F zd_MPainter_about_76 rfl ?_
    refine zr_pcn 78 rfl ?_
    refine zr_iadd F zd_MPainter_about_78 ?_
    refine zr_lload_n F zd_MPainter_about_79 rfl ?_
    obtain ⟨p67, ep67, h⟩ := zoB_s h
    refine zr_callS1 F (k_MPainter_sin l D tA b sh _ ep67) zd_MPainter_about_80 zs_MPainter_93 zq_MPainter_sin rfl rfl ⟨(Nat.le_of_ble_eq_true rfl), (Nat.le_of_ble_eq_true rfl)⟩ (Nat.le_of_ble_eq_true rfl) ⟨(Nat.le_of_ble_eq_true rfl), (Nat.le_of_ble_eq_true rfl)⟩ ?_
    obtain ⟨i68, ei68, h⟩ := zoL_s h
    rw [← ei68]
    obtain ⟨le70, hs69, h⟩ := zoS_s h
    obtain ⟨hi71, h⟩ := zoI_s h
    refine zr_last F zd_MPainter_about_83 (zW_a2 hs69) hi71 ?_
    obtain ⟨mm72, emm72, h⟩ := zoL_s h
    refine zr_norm (zW tA b sh mm72) _ (by rw [emm72]; exact zW_s2 hs69) rfl ?_
    refine zr_aload_n F zd_MPainter_about_84 rfl ?_
    refine zr_iconstv (v := 4) F zd_MPainter_about_85 (by decide) ?_
    refine zr_iload F zd_MPainter_about_86 rfl ?_
    refine zr_imul F zd_MPainter_about_88 ?_
    refine zr_pcn 89 rfl ?_
    refine zr_iload F zd_MPainter_about_89 rfl ?_
    refine zr_iadd F zd_MPainter_about_91 ?_
    refine zr_lload_n F zd_MPainter_about_92 rfl ?_
    obtain ⟨p73, ep73, h⟩ := zoB_s h
    refine zr_callS1 F (k_MPainter_cos l D tA b sh _ ep73) zd_MPainter_about_93 zs_MPainter_118 zq_MPainter_cos rfl rfl ⟨(Nat.le_of_ble_eq_true rfl), (Nat.le_of_ble_eq_true rfl)⟩ (Nat.le_of_ble_eq_true rfl) ⟨(Nat.le_of_ble_eq_true rfl), (Nat.le_of_ble_eq_true rfl)⟩ ?_
    obtain ⟨i74, ei74, h⟩ := zoL_s h
    rw [← ei74]
    obtain ⟨le76, hs75, h⟩ := zoS_s h
    obtain ⟨hi77, h⟩ := zoI_s h
    refine zr_last F zd_MPainter_about_96 (zW_a2 hs75) hi77 ?_
    obtain ⟨mm78, emm78, h⟩ := zoL_s h
    refine zr_norm (zW tA b sh mm78) _ (by rw [emm78]; exact zW_s2 hs75) rfl ?_
    obtain rfl := Option.some.inj h
    exact zr_vret F hr zd_MPainter_about_97 (Nat.le_of_ble_eq_true rfl) (Nat.le_of_ble_eq_true rfl) ⟨rfl, rfl, rfl⟩
abbrev zb_MPainter_toTurn : ByteArray := prog_16_method_10_code
def zy_MPainter_toTurn : MethodName := ⟨"OrreryBoxModel$Painter", "toTurn", "([II)V"⟩
theorem zc_MPainter_toTurn : Cond.code zy_MPainter_toTurn zb_MPainter_toTurn 3 none ∈ gw := gw_t 2004 (by decide +kernel) rfl
theorem zq_MPainter_toTurn : zy_MPainter_toTurn.cls ≠ "java/lang/invoke/MethodHandle" ∧ zy_MPainter_toTurn.cls ≠ "java/lang/invoke/VarHandle" ∧ (parseMethodDescriptor zy_MPainter_toTurn.desc).map (fun d => d.parameters.length) = some 2 := by decide +kernel
theorem zd_MPainter_toTurn_0 : decode zb_MPainter_toTurn 0 = .ok (.iconst 1, 1) := by decide +kernel
theorem zd_MPainter_toTurn_1 : decode zb_MPainter_toTurn 1 = .ok (.aload_n 1, 1) := by decide +kernel
theorem zd_MPainter_toTurn_2 : decode zb_MPainter_toTurn 2 = .ok (.iload_n 2, 1) := by decide +kernel
theorem zd_MPainter_toTurn_3 : decode zb_MPainter_toTurn 3 = .ok (.iconst 1, 1) := by decide +kernel
theorem zd_MPainter_toTurn_4 : decode zb_MPainter_toTurn 4 = .ok (.iadd, 1) := by decide +kernel
theorem zd_MPainter_toTurn_5 : decode zb_MPainter_toTurn 5 = .ok (.iaload, 1) := by decide +kernel
theorem zd_MPainter_toTurn_6 : decode zb_MPainter_toTurn 6 = .ok (.i2l, 1) := by decide +kernel
theorem zd_MPainter_toTurn_7 : decode zb_MPainter_toTurn 7 = .ok (.aload_n 0, 1) := by decide +kernel
theorem zd_MPainter_toTurn_8 : decode zb_MPainter_toTurn 8 = .ok (.getfield 24, 3) := by decide +kernel
theorem zd_MPainter_toTurn_11 : decode zb_MPainter_toTurn 11 = .ok (.invokestatic 121, 3) := by decide +kernel
theorem zd_MPainter_toTurn_14 : decode zb_MPainter_toTurn 14 = .ok (.iconst 0, 1) := by decide +kernel
theorem zd_MPainter_toTurn_15 : decode zb_MPainter_toTurn 15 = .ok (.aload_n 1, 1) := by decide +kernel
theorem zd_MPainter_toTurn_16 : decode zb_MPainter_toTurn 16 = .ok (.iload_n 2, 1) := by decide +kernel
theorem zd_MPainter_toTurn_17 : decode zb_MPainter_toTurn 17 = .ok (.iaload, 1) := by decide +kernel
theorem zd_MPainter_toTurn_18 : decode zb_MPainter_toTurn 18 = .ok (.i2l, 1) := by decide +kernel
theorem zd_MPainter_toTurn_19 : decode zb_MPainter_toTurn 19 = .ok (.aload_n 0, 1) := by decide +kernel
theorem zd_MPainter_toTurn_20 : decode zb_MPainter_toTurn 20 = .ok (.getfield 21, 3) := by decide +kernel
theorem zd_MPainter_toTurn_23 : decode zb_MPainter_toTurn 23 = .ok (.invokestatic 121, 3) := by decide +kernel
theorem zd_MPainter_toTurn_26 : decode zb_MPainter_toTurn 26 = .ok (.aload_n 0, 1) := by decide +kernel
theorem zd_MPainter_toTurn_27 : decode zb_MPainter_toTurn 27 = .ok (.aload_n 0, 1) := by decide +kernel
theorem zd_MPainter_toTurn_28 : decode zb_MPainter_toTurn 28 = .ok (.getfield 24, 3) := by decide +kernel
theorem zd_MPainter_toTurn_31 : decode zb_MPainter_toTurn 31 = .ok (.aload_n 0, 1) := by decide +kernel
theorem zd_MPainter_toTurn_32 : decode zb_MPainter_toTurn 32 = .ok (.getfield 21, 3) := by decide +kernel
theorem zd_MPainter_toTurn_35 : decode zb_MPainter_toTurn 35 = .ok (.invokevirtual 125, 3) := by decide +kernel
theorem zd_MPainter_toTurn_38 : decode zb_MPainter_toTurn 38 = .ok (.iconst 2, 1) := by decide +kernel
theorem zd_MPainter_toTurn_39 : decode zb_MPainter_toTurn 39 = .ok (.aload_n 1, 1) := by decide +kernel
theorem zd_MPainter_toTurn_40 : decode zb_MPainter_toTurn 40 = .ok (.iload_n 2, 1) := by decide +kernel
theorem zd_MPainter_toTurn_41 : decode zb_MPainter_toTurn 41 = .ok (.iconst 2, 1) := by decide +kernel
theorem zd_MPainter_toTurn_42 : decode zb_MPainter_toTurn 42 = .ok (.iadd, 1) := by decide +kernel
theorem zd_MPainter_toTurn_43 : decode zb_MPainter_toTurn 43 = .ok (.iaload, 1) := by decide +kernel
theorem zd_MPainter_toTurn_44 : decode zb_MPainter_toTurn 44 = .ok (.i2l, 1) := by decide +kernel
theorem zd_MPainter_toTurn_45 : decode zb_MPainter_toTurn 45 = .ok (.aload_n 0, 1) := by decide +kernel
theorem zd_MPainter_toTurn_46 : decode zb_MPainter_toTurn 46 = .ok (.getfield 21, 3) := by decide +kernel
theorem zd_MPainter_toTurn_49 : decode zb_MPainter_toTurn 49 = .ok (.invokestatic 121, 3) := by decide +kernel
theorem zd_MPainter_toTurn_52 : decode zb_MPainter_toTurn 52 = .ok (.aload_n 0, 1) := by decide +kernel
theorem zd_MPainter_toTurn_53 : decode zb_MPainter_toTurn 53 = .ok (.aload_n 0, 1) := by decide +kernel
theorem zd_MPainter_toTurn_54 : decode zb_MPainter_toTurn 54 = .ok (.getfield 24, 3) := by decide +kernel
theorem zd_MPainter_toTurn_57 : decode zb_MPainter_toTurn 57 = .ok (.aload_n 0, 1) := by decide +kernel
theorem zd_MPainter_toTurn_58 : decode zb_MPainter_toTurn 58 = .ok (.getfield 21, 3) := by decide +kernel
theorem zd_MPainter_toTurn_61 : decode zb_MPainter_toTurn 61 = .ok (.invokevirtual 125, 3) := by decide +kernel
theorem zd_MPainter_toTurn_64 : decode zb_MPainter_toTurn 64 = .ok (.return_, 1) := by decide +kernel
theorem zw_2005 : (Jvm.Cond.methodLink "OrreryBoxModel$Painter" (121 : Nat) ({ cls := "OrreryBoxModel$Painter", name := "about", desc := "(IJ[J)V" } : Jvm.MethodName)) ∈ gw := gw_t 2005 (by decide +kernel) rfl
theorem zw_2006 : (Jvm.Cond.static ({ cls := "OrreryBoxModel$Painter", name := "about", desc := "(IJ[J)V" } : Jvm.MethodName)) ∈ gw := gw_t 2006 (by decide +kernel) rfl
theorem zs_MPainter_121 : zwS "OrreryBoxModel$Painter" 121 zy_MPainter_about zb_MPainter_about 6 none := ⟨zw_2005, zw_2006, zw_17, zc_MPainter_about⟩
theorem zw_2029 : (Jvm.Cond.methodLink "OrreryBoxModel$Painter" (125 : Nat) ({ cls := "OrreryBoxModel$Painter", name := "times", desc := "([J[J)V" } : Jvm.MethodName)) ∈ gw := gw_t 2029 (by decide +kernel) rfl
theorem zw_2031 : (Jvm.Cond.instanceMethod ({ cls := "OrreryBoxModel$Painter", name := "times", desc := "([J[J)V" } : Jvm.MethodName)) ∈ gw := gw_t 2031 (by decide +kernel) rfl
theorem zv_93 : (Jvm.Cond.selects "OrreryBoxModel$Painter" (⟨"OrreryBoxModel$Painter", "times", "([J[J)V"⟩ : MethodName) ⟨"OrreryBoxModel$Painter", "times", "([J[J)V"⟩) ∈ gw := gw_s 93 (by decide +kernel) rfl
theorem zs_MPainter_125 : zwV "OrreryBoxModel$Painter" 125 "OrreryBoxModel$Painter" zy_MPainter_times zb_MPainter_times 7 none := ⟨zw_2029, zw_2031, zv_93, zw_17, zc_MPainter_times⟩
def F_MPainter_toTurn (sh : zSh) (mm : zMem) (o : Nat) (x0_ : Nat) (x1_ : Int32) : Option zMem := zoL (x1_ + 1) (fun i1 => zoS (sh x0_) 100 (fun le3 => if (i1 : Int32) < 0 ∨ le3 ≤ (i1 : Int32).toNatClampNeg then none else zoS (sh o) 13 (fun le6 => Option.bind (mm.2.2 o 18) (fun a7 => zoL (((mm.1 x0_ (i1 : Int32).toNatClampNeg) : Int32).toInt64) (fun x8 => Option.bind (F_MPainter_about sh mm 1 x8 a7) (fun p9 => zoS (sh x0_) 100 (fun le11 => if (x1_ : Int32) < 0 ∨ le11 ≤ (x1_ : Int32).toNatClampNeg then none else zoS (sh o) 13 (fun le14 => Option.bind (p9.2.2 o 17) (fun a15 => zoL (((p9.1 x0_ (x1_ : Int32).toNatClampNeg) : Int32).toInt64) (fun x16 => Option.bind (F_MPainter_about sh p9 0 x16 a15) (fun p17 => zoS (sh o) 13 (fun le19 => Option.bind (p17.2.2 o 18) (fun a20 => zoS (sh o) 13 (fun le22 => Option.bind (p17.2.2 o 17) (fun a23 => zoS (sh o) 13 (fun le25 => Option.bind (F_MPainter_times sh p17 o a20 a23) (fun p26 => zoL (x1_ + 2) (fun i27 => zoS (sh x0_) 100 (fun le29 => if (i27 : Int32) < 0 ∨ le29 ≤ (i27 : Int32).toNatClampNeg then none else zoS (sh o) 13 (fun le32 => Option.bind (p26.2.2 o 17) (fun a33 => zoL (((p26.1 x0_ (i27 : Int32).toNatClampNeg) : Int32).toInt64) (fun x34 => Option.bind (F_MPainter_about sh p26 2 x34 a33) (fun p35 => zoS (sh o) 13 (fun le37 => Option.bind (p35.2.2 o 18) (fun a38 => zoS (sh o) 13 (fun le40 => Option.bind (p35.2.2 o 17) (fun a41 => zoS (sh o) 13 (fun le43 => Option.bind (F_MPainter_times sh p35 o a38 a41) (fun p44 => some p44)))))))))))))))))))))))))))))
set_option maxHeartbeats 4000000 in
set_option maxRecDepth 100000 in
theorem k_MPainter_toTurn (l : Launch) (D : va_G) (tA : Nat → ClassId) (b : Nat) (sh : zSh) (n : Nat) {mm : zMem} {o : Nat} {x0_ : Nat} {x1_ : Int32} {r : zMem} (h : F_MPainter_toTurn sh mm o x0_ x1_ = some r) : zM l D tA b zy_MPainter_toTurn zb_MPainter_toTurn 3 none 6 144 0 0 [.ref (b + o), .ref (b + x0_), .int x1_] (zW tA b sh mm) n (zE none (zW tA b sh r) n) := by
  unfold F_MPainter_toTurn at h
  refine zM_of (own := "OrreryBoxModel$Painter") (plainFor_of_name (by decide)) rfl (Nat.le_of_ble_eq_true rfl) (fun p e s m below meth c F hr hin hH => ?_)
  refine zr_iconstv (v := 1) F zd_MPainter_toTurn_0 (by decide) ?_
  refine zr_aload_n F zd_MPainter_toTurn_1 rfl ?_
  refine zr_iload_n F zd_MPainter_toTurn_2 rfl ?_
  refine zr_iconstv (v := 1) F zd_MPainter_toTurn_3 (by decide) ?_
  refine zr_iadd F zd_MPainter_toTurn_4 ?_
  obtain ⟨i1, ei1, h⟩ := zoL_s h
  rw [← ei1]
  obtain ⟨le3, hs2, h⟩ := zoS_s h
  obtain ⟨hi4, h⟩ := zoI_s h
  refine zr_iald F zd_MPainter_toTurn_5 (zW_a0 hs2) hi4 ?_
  refine zr_i2l F zd_MPainter_toTurn_6 ?_
  refine zr_pcn 7 rfl ?_
  refine zr_aload_n F zd_MPainter_toTurn_7 rfl ?_
  obtain ⟨le6, hs5, h⟩ := zoS_s h
  obtain ⟨a7, ea7, h⟩ := zoB_s h
  refine zr_get F 13 18 zd_MPainter_toTurn_8 (zW_o hs5 (by decide)) rfl (by decide) zw_1598 rfl (by rfl) ?_
  refine zr_tor ea7 ?_
  obtain ⟨x8, ex8, h⟩ := zoL_s h
  rw [← ex8]
  obtain ⟨p9, ep9, h⟩ := zoB_s h
  refine zr_callS0 F (k_MPainter_about l D tA b sh _ ep9) zd_MPainter_toTurn_11 zs_MPainter_121 zq_MPainter_about rfl rfl ⟨(Nat.le_of_ble_eq_true rfl), (Nat.le_of_ble_eq_true rfl)⟩ (Nat.le_of_ble_eq_true rfl) ⟨(Nat.le_of_ble_eq_true rfl), (Nat.le_of_ble_eq_true rfl)⟩ ?_
  refine zr_iconstv (v := 0) F zd_MPainter_toTurn_14 (by decide) ?_
  refine zr_aload_n F zd_MPainter_toTurn_15 rfl ?_
  refine zr_iload_n F zd_MPainter_toTurn_16 rfl ?_
  obtain ⟨le11, hs10, h⟩ := zoS_s h
  obtain ⟨hi12, h⟩ := zoI_s h
  refine zr_iald F zd_MPainter_toTurn_17 (zW_a0 hs10) hi12 ?_
  refine zr_i2l F zd_MPainter_toTurn_18 ?_
  refine zr_pcn 19 rfl ?_
  refine zr_aload_n F zd_MPainter_toTurn_19 rfl ?_
  obtain ⟨le14, hs13, h⟩ := zoS_s h
  obtain ⟨a15, ea15, h⟩ := zoB_s h
  refine zr_get F 13 17 zd_MPainter_toTurn_20 (zW_o hs13 (by decide)) rfl (by decide) zw_1597 rfl (by rfl) ?_
  refine zr_tor ea15 ?_
  obtain ⟨x16, ex16, h⟩ := zoL_s h
  rw [← ex16]
  obtain ⟨p17, ep17, h⟩ := zoB_s h
  refine zr_callS0 F (k_MPainter_about l D tA b sh _ ep17) zd_MPainter_toTurn_23 zs_MPainter_121 zq_MPainter_about rfl rfl ⟨(Nat.le_of_ble_eq_true rfl), (Nat.le_of_ble_eq_true rfl)⟩ (Nat.le_of_ble_eq_true rfl) ⟨(Nat.le_of_ble_eq_true rfl), (Nat.le_of_ble_eq_true rfl)⟩ ?_
  refine zr_aload_n F zd_MPainter_toTurn_26 rfl ?_
  refine zr_aload_n F zd_MPainter_toTurn_27 rfl ?_
  obtain ⟨le19, hs18, h⟩ := zoS_s h
  obtain ⟨a20, ea20, h⟩ := zoB_s h
  refine zr_get F 13 18 zd_MPainter_toTurn_28 (zW_o hs18 (by decide)) rfl (by decide) zw_1598 rfl (by rfl) ?_
  refine zr_tor ea20 ?_
  refine zr_aload_n F zd_MPainter_toTurn_31 rfl ?_
  obtain ⟨le22, hs21, h⟩ := zoS_s h
  obtain ⟨a23, ea23, h⟩ := zoB_s h
  refine zr_get F 13 17 zd_MPainter_toTurn_32 (zW_o hs21 (by decide)) rfl (by decide) zw_1597 rfl (by rfl) ?_
  refine zr_tor ea23 ?_
  refine zr_pcn 35 rfl ?_
  obtain ⟨le25, hs24, h⟩ := zoS_s h
  obtain ⟨p26, ep26, h⟩ := zoB_s h
  refine zr_callV0 F (k_MPainter_times l D tA b sh _ ep26) zd_MPainter_toTurn_35 (zW_o hs24 (by decide)) rfl zs_MPainter_125 rfl zq_MPainter_times rfl rfl ⟨(Nat.le_of_ble_eq_true rfl), (Nat.le_of_ble_eq_true rfl)⟩ (Nat.le_of_ble_eq_true rfl) ⟨(Nat.le_of_ble_eq_true rfl), (Nat.le_of_ble_eq_true rfl)⟩ ?_
  refine zr_iconstv (v := 2) F zd_MPainter_toTurn_38 (by decide) ?_
  refine zr_aload_n F zd_MPainter_toTurn_39 rfl ?_
  refine zr_iload_n F zd_MPainter_toTurn_40 rfl ?_
  refine zr_iconstv (v := 2) F zd_MPainter_toTurn_41 (by decide) ?_
  refine zr_iadd F zd_MPainter_toTurn_42 ?_
  obtain ⟨i27, ei27, h⟩ := zoL_s h
  rw [← ei27]
  obtain ⟨le29, hs28, h⟩ := zoS_s h
  obtain ⟨hi30, h⟩ := zoI_s h
  refine zr_iald F zd_MPainter_toTurn_43 (zW_a0 hs28) hi30 ?_
  refine zr_i2l F zd_MPainter_toTurn_44 ?_
  refine zr_pcn 45 rfl ?_
  refine zr_aload_n F zd_MPainter_toTurn_45 rfl ?_
  obtain ⟨le32, hs31, h⟩ := zoS_s h
  obtain ⟨a33, ea33, h⟩ := zoB_s h
  refine zr_get F 13 17 zd_MPainter_toTurn_46 (zW_o hs31 (by decide)) rfl (by decide) zw_1597 rfl (by rfl) ?_
  refine zr_tor ea33 ?_
  obtain ⟨x34, ex34, h⟩ := zoL_s h
  rw [← ex34]
  obtain ⟨p35, ep35, h⟩ := zoB_s h
  refine zr_callS0 F (k_MPainter_about l D tA b sh _ ep35) zd_MPainter_toTurn_49 zs_MPainter_121 zq_MPainter_about rfl rfl ⟨(Nat.le_of_ble_eq_true rfl), (Nat.le_of_ble_eq_true rfl)⟩ (Nat.le_of_ble_eq_true rfl) ⟨(Nat.le_of_ble_eq_true rfl), (Nat.le_of_ble_eq_true rfl)⟩ ?_
  refine zr_aload_n F zd_MPainter_toTurn_52 rfl ?_
  refine zr_aload_n F zd_MPainter_toTurn_53 rfl ?_
  obtain ⟨le37, hs36, h⟩ := zoS_s h
  obtain ⟨a38, ea38, h⟩ := zoB_s h
  refine zr_get F 13 18 zd_MPainter_toTurn_54 (zW_o hs36 (by decide)) rfl (by decide) zw_1598 rfl (by rfl) ?_
  refine zr_tor ea38 ?_
  refine zr_aload_n F zd_MPainter_toTurn_57 rfl ?_
  obtain ⟨le40, hs39, h⟩ := zoS_s h
  obtain ⟨a41, ea41, h⟩ := zoB_s h
  refine zr_get F 13 17 zd_MPainter_toTurn_58 (zW_o hs39 (by decide)) rfl (by decide) zw_1597 rfl (by rfl) ?_
  refine zr_tor ea41 ?_
  refine zr_pcn 61 rfl ?_
  obtain ⟨le43, hs42, h⟩ := zoS_s h
  obtain ⟨p44, ep44, h⟩ := zoB_s h
  refine zr_callV0 F (k_MPainter_times l D tA b sh _ ep44) zd_MPainter_toTurn_61 (zW_o hs42 (by decide)) rfl zs_MPainter_125 rfl zq_MPainter_times rfl rfl ⟨(Nat.le_of_ble_eq_true rfl), (Nat.le_of_ble_eq_true rfl)⟩ (Nat.le_of_ble_eq_true rfl) ⟨(Nat.le_of_ble_eq_true rfl), (Nat.le_of_ble_eq_true rfl)⟩ ?_
  obtain rfl := Option.some.inj h
  exact zr_vret F hr zd_MPainter_toTurn_64 (Nat.le_of_ble_eq_true rfl) (Nat.le_of_ble_eq_true rfl) ⟨rfl, rfl, rfl⟩
abbrev zb_MPainter_toLocal : ByteArray := prog_16_method_11_code
def zy_MPainter_toLocal : MethodName := ⟨"OrreryBoxModel$Painter", "toLocal", "(I)V"⟩
theorem zc_MPainter_toLocal : Cond.code zy_MPainter_toLocal zb_MPainter_toLocal 4 none ∈ gw := gw_t 2000 (by decide +kernel) rfl
theorem zq_MPainter_toLocal : zy_MPainter_toLocal.cls ≠ "java/lang/invoke/MethodHandle" ∧ zy_MPainter_toLocal.cls ≠ "java/lang/invoke/VarHandle" ∧ (parseMethodDescriptor zy_MPainter_toLocal.desc).map (fun d => d.parameters.length) = some 1 := by decide +kernel
theorem zd_MPainter_toLocal_0 : decode zb_MPainter_toLocal 0 = .ok (.aload_n 0, 1) := by decide +kernel
theorem zd_MPainter_toLocal_1 : decode zb_MPainter_toLocal 1 = .ok (.aload_n 0, 1) := by decide +kernel
theorem zd_MPainter_toLocal_2 : decode zb_MPainter_toLocal 2 = .ok (.getfield 129, 3) := by decide +kernel
theorem zd_MPainter_toLocal_5 : decode zb_MPainter_toLocal 5 = .ok (.getfield 133, 3) := by decide +kernel
theorem zd_MPainter_toLocal_8 : decode zb_MPainter_toLocal 8 = .ok (.iconst 3, 1) := by decide +kernel
theorem zd_MPainter_toLocal_9 : decode zb_MPainter_toLocal 9 = .ok (.iload_n 1, 1) := by decide +kernel
theorem zd_MPainter_toLocal_10 : decode zb_MPainter_toLocal 10 = .ok (.imul, 1) := by decide +kernel
theorem zd_MPainter_toLocal_11 : decode zb_MPainter_toLocal 11 = .ok (.invokevirtual 138, 3) := by decide +kernel
theorem zd_MPainter_toLocal_14 : decode zb_MPainter_toLocal 14 = .ok (.iconst 0, 1) := by decide +kernel
theorem zd_MPainter_toLocal_15 : decode zb_MPainter_toLocal 15 = .ok (.istore_n 2, 1) := by decide +kernel
theorem zd_MPainter_toLocal_16 : decode zb_MPainter_toLocal 16 = .ok (.iload_n 2, 1) := by decide +kernel
theorem zd_MPainter_toLocal_17 : decode zb_MPainter_toLocal 17 = .ok (.iconst 3, 1) := by decide +kernel
theorem zd_MPainter_toLocal_18 : decode zb_MPainter_toLocal 18 = .ok (.if_icmp .ge 86, 3) := by decide +kernel
theorem zd_MPainter_toLocal_21 : decode zb_MPainter_toLocal 21 = .ok (.iconst 0, 1) := by decide +kernel
theorem zd_MPainter_toLocal_22 : decode zb_MPainter_toLocal 22 = .ok (.istore_n 3, 1) := by decide +kernel
theorem zd_MPainter_toLocal_23 : decode zb_MPainter_toLocal 23 = .ok (.iload_n 3, 1) := by decide +kernel
theorem zd_MPainter_toLocal_24 : decode zb_MPainter_toLocal 24 = .ok (.iconst 3, 1) := by decide +kernel
theorem zd_MPainter_toLocal_25 : decode zb_MPainter_toLocal 25 = .ok (.if_icmp .ge 49, 3) := by decide +kernel
theorem zd_MPainter_toLocal_28 : decode zb_MPainter_toLocal 28 = .ok (.aload_n 0, 1) := by decide +kernel
theorem zd_MPainter_toLocal_29 : decode zb_MPainter_toLocal 29 = .ok (.getfield 21, 3) := by decide +kernel
theorem zd_MPainter_toLocal_32 : decode zb_MPainter_toLocal 32 = .ok (.iconst 4, 1) := by decide +kernel
theorem zd_MPainter_toLocal_33 : decode zb_MPainter_toLocal 33 = .ok (.iload_n 2, 1) := by decide +kernel
theorem zd_MPainter_toLocal_34 : decode zb_MPainter_toLocal 34 = .ok (.imul, 1) := by decide +kernel
theorem zd_MPainter_toLocal_35 : decode zb_MPainter_toLocal 35 = .ok (.iload_n 3, 1) := by decide +kernel
theorem zd_MPainter_toLocal_36 : decode zb_MPainter_toLocal 36 = .ok (.iadd, 1) := by decide +kernel
theorem zd_MPainter_toLocal_37 : decode zb_MPainter_toLocal 37 = .ok (.aload_n 0, 1) := by decide +kernel
theorem zd_MPainter_toLocal_38 : decode zb_MPainter_toLocal 38 = .ok (.getfield 24, 3) := by decide +kernel
theorem zd_MPainter_toLocal_41 : decode zb_MPainter_toLocal 41 = .ok (.iconst 4, 1) := by decide +kernel
theorem zd_MPainter_toLocal_42 : decode zb_MPainter_toLocal 42 = .ok (.iload_n 2, 1) := by decide +kernel
theorem zd_MPainter_toLocal_43 : decode zb_MPainter_toLocal 43 = .ok (.imul, 1) := by decide +kernel
theorem zd_MPainter_toLocal_44 : decode zb_MPainter_toLocal 44 = .ok (.iload_n 3, 1) := by decide +kernel
theorem zd_MPainter_toLocal_45 : decode zb_MPainter_toLocal 45 = .ok (.iadd, 1) := by decide +kernel
theorem zd_MPainter_toLocal_46 : decode zb_MPainter_toLocal 46 = .ok (.laload, 1) := by decide +kernel
theorem zd_MPainter_toLocal_47 : decode zb_MPainter_toLocal 47 = .ok (.aload_n 0, 1) := by decide +kernel
theorem zd_MPainter_toLocal_48 : decode zb_MPainter_toLocal 48 = .ok (.getfield 129, 3) := by decide +kernel
theorem zd_MPainter_toLocal_51 : decode zb_MPainter_toLocal 51 = .ok (.getfield 142, 3) := by decide +kernel
theorem zd_MPainter_toLocal_54 : decode zb_MPainter_toLocal 54 = .ok (.iconst 3, 1) := by decide +kernel
theorem zd_MPainter_toLocal_55 : decode zb_MPainter_toLocal 55 = .ok (.iload_n 1, 1) := by decide +kernel
theorem zd_MPainter_toLocal_56 : decode zb_MPainter_toLocal 56 = .ok (.imul, 1) := by decide +kernel
theorem zd_MPainter_toLocal_57 : decode zb_MPainter_toLocal 57 = .ok (.iload_n 3, 1) := by decide +kernel
theorem zd_MPainter_toLocal_58 : decode zb_MPainter_toLocal 58 = .ok (.iadd, 1) := by decide +kernel
theorem zd_MPainter_toLocal_59 : decode zb_MPainter_toLocal 59 = .ok (.iaload, 1) := by decide +kernel
theorem zd_MPainter_toLocal_60 : decode zb_MPainter_toLocal 60 = .ok (.i2l, 1) := by decide +kernel
theorem zd_MPainter_toLocal_61 : decode zb_MPainter_toLocal 61 = .ok (.invokestatic 108, 3) := by decide +kernel
theorem zd_MPainter_toLocal_64 : decode zb_MPainter_toLocal 64 = .ok (.invokestatic 111, 3) := by decide +kernel
theorem zd_MPainter_toLocal_67 : decode zb_MPainter_toLocal 67 = .ok (.lastore, 1) := by decide +kernel
theorem zd_MPainter_toLocal_68 : decode zb_MPainter_toLocal 68 = .ok (.iinc 3 1, 3) := by decide +kernel
theorem zd_MPainter_toLocal_71 : decode zb_MPainter_toLocal 71 = .ok (.goto (-48), 3) := by decide +kernel
theorem zd_MPainter_toLocal_74 : decode zb_MPainter_toLocal 74 = .ok (.aload_n 0, 1) := by decide +kernel
theorem zd_MPainter_toLocal_75 : decode zb_MPainter_toLocal 75 = .ok (.getfield 21, 3) := by decide +kernel
theorem zd_MPainter_toLocal_78 : decode zb_MPainter_toLocal 78 = .ok (.iconst 4, 1) := by decide +kernel
theorem zd_MPainter_toLocal_79 : decode zb_MPainter_toLocal 79 = .ok (.iload_n 2, 1) := by decide +kernel
theorem zd_MPainter_toLocal_80 : decode zb_MPainter_toLocal 80 = .ok (.imul, 1) := by decide +kernel
theorem zd_MPainter_toLocal_81 : decode zb_MPainter_toLocal 81 = .ok (.iconst 3, 1) := by decide +kernel
theorem zd_MPainter_toLocal_82 : decode zb_MPainter_toLocal 82 = .ok (.iadd, 1) := by decide +kernel
theorem zd_MPainter_toLocal_83 : decode zb_MPainter_toLocal 83 = .ok (.aload_n 0, 1) := by decide +kernel
theorem zd_MPainter_toLocal_84 : decode zb_MPainter_toLocal 84 = .ok (.getfield 129, 3) := by decide +kernel
theorem zd_MPainter_toLocal_87 : decode zb_MPainter_toLocal 87 = .ok (.getfield 145, 3) := by decide +kernel
theorem zd_MPainter_toLocal_90 : decode zb_MPainter_toLocal 90 = .ok (.iconst 3, 1) := by decide +kernel
theorem zd_MPainter_toLocal_91 : decode zb_MPainter_toLocal 91 = .ok (.iload_n 1, 1) := by decide +kernel
theorem zd_MPainter_toLocal_92 : decode zb_MPainter_toLocal 92 = .ok (.imul, 1) := by decide +kernel
theorem zd_MPainter_toLocal_93 : decode zb_MPainter_toLocal 93 = .ok (.iload_n 2, 1) := by decide +kernel
theorem zd_MPainter_toLocal_94 : decode zb_MPainter_toLocal 94 = .ok (.iadd, 1) := by decide +kernel
theorem zd_MPainter_toLocal_95 : decode zb_MPainter_toLocal 95 = .ok (.iaload, 1) := by decide +kernel
theorem zd_MPainter_toLocal_96 : decode zb_MPainter_toLocal 96 = .ok (.i2l, 1) := by decide +kernel
theorem zd_MPainter_toLocal_97 : decode zb_MPainter_toLocal 97 = .ok (.lastore, 1) := by decide +kernel
theorem zd_MPainter_toLocal_98 : decode zb_MPainter_toLocal 98 = .ok (.iinc 2 1, 3) := by decide +kernel
theorem zd_MPainter_toLocal_101 : decode zb_MPainter_toLocal 101 = .ok (.goto (-85), 3) := by decide +kernel
theorem zd_MPainter_toLocal_104 : decode zb_MPainter_toLocal 104 = .ok (.return_, 1) := by decide +kernel
theorem zw_1383 : (Jvm.Cond.fieldLink "OrreryBoxModel$Painter" (133 : Nat) "OrreryBoxModel$Scene" "turn" "[I") ∈ gw := gw_t 1383 (by decide +kernel) rfl
theorem zw_2001 : (Jvm.Cond.methodLink "OrreryBoxModel$Painter" (138 : Nat) ({ cls := "OrreryBoxModel$Painter", name := "toTurn", desc := "([II)V" } : Jvm.MethodName)) ∈ gw := gw_t 2001 (by decide +kernel) rfl
theorem zw_2003 : (Jvm.Cond.instanceMethod ({ cls := "OrreryBoxModel$Painter", name := "toTurn", desc := "([II)V" } : Jvm.MethodName)) ∈ gw := gw_t 2003 (by decide +kernel) rfl
theorem zv_92 : (Jvm.Cond.selects "OrreryBoxModel$Painter" (⟨"OrreryBoxModel$Painter", "toTurn", "([II)V"⟩ : MethodName) ⟨"OrreryBoxModel$Painter", "toTurn", "([II)V"⟩) ∈ gw := gw_s 92 (by decide +kernel) rfl
theorem zs_MPainter_138 : zwV "OrreryBoxModel$Painter" 138 "OrreryBoxModel$Painter" zy_MPainter_toTurn zb_MPainter_toTurn 3 none := ⟨zw_2001, zw_2003, zv_92, zw_17, zc_MPainter_toTurn⟩
theorem zw_1386 : (Jvm.Cond.fieldLink "OrreryBoxModel$Painter" (142 : Nat) "OrreryBoxModel$Scene" "size" "[I") ∈ gw := gw_t 1386 (by decide +kernel) rfl
def L_MPainter_toLocal_23 (sh : zSh) (fuel : Nat) (v0 : Nat) (v1 : Int32) (v2 : Int32) (v3 : Int32) (mm : zMem) : Option (Nat × Int32 × Int32 × Int32 × zMem) := match fuel with
  | 0 => none
  | fu + 1 => (if 3 ≤ v3 then some (v0, v1, v2, v3, mm) else zoS (sh v0) 13 (fun le13 => Option.bind (mm.2.2 v0 17) (fun a14 => zoS (sh v0) 13 (fun le16 => Option.bind (mm.2.2 v0 18) (fun a17 => zoL ((4 * v2) + v3) (fun i18 => zoS (sh a17) 102 (fun le20 => if (i18 : Int32) < 0 ∨ le20 ≤ (i18 : Int32).toNatClampNeg then none else zoS (sh v0) 13 (fun le23 => Option.bind (mm.2.2 v0 5) (fun a24 => zoS (sh a24) 15 (fun le26 => Option.bind (mm.2.2 a24 23) (fun a27 => zoL ((3 * v1) + v3) (fun i28 => zoS (sh a27) 100 (fun le30 => if (i28 : Int32) < 0 ∨ le30 ≤ (i28 : Int32).toNatClampNeg then none else zoL (mm.2.1 a17 (i18 : Int32).toNatClampNeg) (fun x32 => zoL (((mm.1 a27 (i28 : Int32).toNatClampNeg) : Int32).toInt64) (fun x33 => zoL (sp_MPainter_bound (sp_MPainter_mul x32 x33)) (fun x36 => zoS (sh a14) 102 (fun le38 => if (i18 : Int32) < 0 ∨ le38 ≤ (i18 : Int32).toNatClampNeg then none else zoL (mL mm a14 (i18 : Int32).toNatClampNeg x36) (fun mm40 => L_MPainter_toLocal_23 sh fu v0 v1 v2 (v3 + 1) mm40))))))))))))))))))
set_option maxHeartbeats 4000000 in
set_option maxRecDepth 100000 in
theorem lp_MPainter_toLocal_23 {p : Program} {l : Launch} {e : Env} {s : State} {m : MethodId} {args : Array Value} {below : List Frame} {meth : Method} {c : Code} {D : va_G} {tA : Nat → ClassId} {b n : Nat} {post : Option Value → zV → Nat → Prop} {sh : zSh} (F : zF p s m args meth c zb_MPainter_toLocal 4 "OrreryBoxModel$Painter" D tA b) : ∀ (fuel : Nat) (v0 : Nat) (v1 : Int32) (v2 : Int32) (v3 : Int32) (mm : zMem) (r : Nat × Int32 × Int32 × Int32 × zMem), L_MPainter_toLocal_23 sh fuel v0 v1 v2 v3 mm = some r → (Z p l e { frames := 7, cells := 0, slots := 0, locals := 166 } s m args below meth c D b 4 (MQ below (zQ D b post) args s 0 0 (fun q => b ≤ q)) (zW tA b sh r.2.2.2.2) n 0 0 74 [(0, .ref (b + (r.1))), (1, .int (r.2.1)), (2, .int (r.2.2.1)), (3, .int (r.2.2.2.1))] []) → Z p l e { frames := 7, cells := 0, slots := 0, locals := 166 } s m args below meth c D b 4 (MQ below (zQ D b post) args s 0 0 (fun q => b ≤ q)) (zW tA b sh mm) n 0 0 23 [(0, .ref (b + v0)), (1, .int v1), (2, .int v2), (3, .int v3)] [] := by
  intro fuel
  induction fuel with
  | zero =>
    intro v0 v1 v2 v3 mm r h
    cases h
  | succ fu ih =>
    intro v0 v1 v2 v3 mm r h hx0
    rw [L_MPainter_toLocal_23] at h
    refine zr_pcn 23 rfl ?_
    refine zr_iload_n F zd_MPainter_toLocal_23 rfl ?_
    refine zr_iconstv (v := 3) F zd_MPainter_toLocal_24 (by decide) ?_
    refine zr_icmp_ge F 74 zd_MPainter_toLocal_25 (by decide) (fun hb11 => ?_) (fun hb11 => ?_)
    ·
      rw [if_pos hb11] at h
      obtain rfl := Option.some.inj h
      refine zr_loc (L' := [(0, .ref (b + v0)), (1, .int v1), (2, .int v2), (3, .int v3)]) ⟨rfl, rfl, rfl, rfl, trivial⟩ ?_
      exact hx0 
    ·
      rw [if_neg hb11] at h
      refine zr_aload_n F zd_MPainter_toLocal_28 rfl ?_
      obtain ⟨le13, hs12, h⟩ := zoS_s h
      obtain ⟨a14, ea14, h⟩ := zoB_s h
      refine zr_get F 13 17 zd_MPainter_toLocal_29 (zW_o hs12 (by decide)) rfl (by decide) zw_1597 rfl (by rfl) ?_
      refine zr_tor ea14 ?_
      refine zr_iconstv (v := 4) F zd_MPainter_toLocal_32 (by decide) ?_
      refine zr_iload_n F zd_MPainter_toLocal_33 rfl ?_
      refine zr_imul F zd_MPainter_toLocal_34 ?_
      refine zr_pcn 35 rfl ?_
      refine zr_iload_n F zd_MPainter_toLocal_35 rfl ?_
      refine zr_iadd F zd_MPainter_toLocal_36 ?_
      refine zr_aload_n F zd_MPainter_toLocal_37 rfl ?_
      obtain ⟨le16, hs15, h⟩ := zoS_s h
      obtain ⟨a17, ea17, h⟩ := zoB_s h
      refine zr_get F 13 18 zd_MPainter_toLocal_38 (zW_o hs15 (by decide)) rfl (by decide) zw_1598 rfl (by rfl) ?_
      refine zr_tor ea17 ?_
      refine zr_iconstv (v := 4) F zd_MPainter_toLocal_41 (by decide) ?_
      refine zr_iload_n F zd_MPainter_toLocal_42 rfl ?_
      refine zr_imul F zd_MPainter_toLocal_43 ?_
      refine zr_iload_n F zd_MPainter_toLocal_44 rfl ?_
      refine zr_pcn 45 rfl ?_
      refine zr_iadd F zd_MPainter_toLocal_45 ?_
      obtain ⟨i18, ei18, h⟩ := zoL_s h
      rw [← ei18]
      obtain ⟨le20, hs19, h⟩ := zoS_s h
      obtain ⟨hi21, h⟩ := zoI_s h
      refine zr_lald F zd_MPainter_toLocal_46 (zW_a2 hs19) hi21 ?_
      refine zr_aload_n F zd_MPainter_toLocal_47 rfl ?_
      obtain ⟨le23, hs22, h⟩ := zoS_s h
      obtain ⟨a24, ea24, h⟩ := zoB_s h
      refine zr_get F 13 5 zd_MPainter_toLocal_48 (zW_o hs22 (by decide)) rfl (by decide) zw_1581 rfl (by rfl) ?_
      refine zr_tor ea24 ?_
      obtain ⟨le26, hs25, h⟩ := zoS_s h
      obtain ⟨a27, ea27, h⟩ := zoB_s h
      refine zr_get F 15 23 zd_MPainter_toLocal_51 (zW_o hs25 (by decide)) rfl (by decide) zw_1386 rfl (by rfl) ?_
      refine zr_tor ea27 ?_
      refine zr_iconstv (v := 3) F zd_MPainter_toLocal_54 (by decide) ?_
      refine zr_iload_n F zd_MPainter_toLocal_55 rfl ?_
      refine zr_imul F zd_MPainter_toLocal_56 ?_
      refine zr_pcn 57 rfl ?_
      refine zr_iload_n F zd_MPainter_toLocal_57 rfl ?_
      refine zr_iadd F zd_MPainter_toLocal_58 ?_
      obtain ⟨i28, ei28, h⟩ := zoL_s h
      rw [← ei28]
      obtain ⟨le30, hs29, h⟩ := zoS_s h
      obtain ⟨hi31, h⟩ := zoI_s h
      refine zr_iald F zd_MPainter_toLocal_59 (zW_a0 hs29) hi31 ?_
      refine zr_i2l F zd_MPainter_toLocal_60 ?_
      obtain ⟨x32, ex32, h⟩ := zoL_s h
      rw [← ex32]
      obtain ⟨x33, ex33, h⟩ := zoL_s h
      rw [← ex33]
      refine zr_callS1 F (c_MPainter_mul l D tA b _ _ x32 x33) zd_MPainter_toLocal_61 zs_MPainter_108 zq_MPainter_mul rfl rfl ⟨(Nat.le_of_ble_eq_true rfl), (Nat.le_of_ble_eq_true rfl)⟩ (Nat.le_of_ble_eq_true rfl) ⟨(Nat.le_of_ble_eq_true rfl), (Nat.le_of_ble_eq_true rfl)⟩ ?_
      refine zr_callS1 F (c_MPainter_bound l D tA b _ _ (sp_MPainter_mul x32 x33)) zd_MPainter_toLocal_64 zs_MPainter_111 zq_MPainter_bound rfl rfl ⟨(Nat.le_of_ble_eq_true rfl), (Nat.le_of_ble_eq_true rfl)⟩ (Nat.le_of_ble_eq_true rfl) ⟨(Nat.le_of_ble_eq_true rfl), (Nat.le_of_ble_eq_true rfl)⟩ ?_
      obtain ⟨x36, ex36, h⟩ := zoL_s h
      rw [← ex36]
      obtain ⟨le38, hs37, h⟩ := zoS_s h
      obtain ⟨hi39, h⟩ := zoI_s h
      refine zr_last F zd_MPainter_toLocal_67 (zW_a2 hs37) hi39 ?_
      obtain ⟨mm40, emm40, h⟩ := zoL_s h
      refine zr_norm (zW tA b sh mm40) _ (by rw [emm40]; exact zW_s2 hs37) rfl ?_
      refine zr_iinc (v := (v3 + 1)) F zd_MPainter_toLocal_68 rfl rfl (by decide) ?_
      refine zr_pcn 71 rfl ?_
      refine zr_goto F 23 zd_MPainter_toLocal_71 (by decide) ?_
      refine zr_loc (L' := [(0, .ref (b + v0)), (1, .int v1), (2, .int v2), (3, .int (v3 + 1))]) ⟨rfl, rfl, rfl, rfl, trivial⟩ ?_
      exact ih _ _ _ _ _ _ h hx0
theorem zw_1380 : (Jvm.Cond.fieldLink "OrreryBoxModel$Painter" (145 : Nat) "OrreryBoxModel$Scene" "move" "[I") ∈ gw := gw_t 1380 (by decide +kernel) rfl
def L_MPainter_toLocal_16 (sh : zSh) (fuel : Nat) (v0 : Nat) (v1 : Int32) (v2 : Int32) (mm : zMem) : Option (Nat × Int32 × Int32 × zMem) := match fuel with
  | 0 => none
  | fu + 1 => (if 3 ≤ v2 then some (v0, v1, v2, mm) else Option.bind (L_MPainter_toLocal_23 sh zfuel v0 v1 v2 0 mm) (fun q41 => zoS (sh (q41.1)) 13 (fun le43 => Option.bind ((q41.2.2.2.2).2.2 (q41.1) 17) (fun a44 => zoS (sh (q41.1)) 13 (fun le46 => Option.bind ((q41.2.2.2.2).2.2 (q41.1) 5) (fun a47 => zoS (sh a47) 15 (fun le49 => Option.bind ((q41.2.2.2.2).2.2 a47 21) (fun a50 => zoL ((3 * q41.2.1) + q41.2.2.1) (fun i51 => zoS (sh a50) 100 (fun le53 => if (i51 : Int32) < 0 ∨ le53 ≤ (i51 : Int32).toNatClampNeg then none else zoL ((((q41.2.2.2.2).1 a50 (i51 : Int32).toNatClampNeg) : Int32).toInt64) (fun x55 => zoL ((4 * q41.2.2.1) + 3) (fun i56 => zoS (sh a44) 102 (fun le58 => if (i56 : Int32) < 0 ∨ le58 ≤ (i56 : Int32).toNatClampNeg then none else zoL (mL (q41.2.2.2.2) a44 (i56 : Int32).toNatClampNeg x55) (fun mm60 => L_MPainter_toLocal_16 sh fu (q41.1) (q41.2.1) (q41.2.2.1 + 1) mm60))))))))))))))
set_option maxHeartbeats 4000000 in
set_option maxRecDepth 100000 in
theorem lp_MPainter_toLocal_16 {p : Program} {l : Launch} {e : Env} {s : State} {m : MethodId} {args : Array Value} {below : List Frame} {meth : Method} {c : Code} {D : va_G} {tA : Nat → ClassId} {b n : Nat} {post : Option Value → zV → Nat → Prop} {sh : zSh} (F : zF p s m args meth c zb_MPainter_toLocal 4 "OrreryBoxModel$Painter" D tA b) : ∀ (fuel : Nat) (v0 : Nat) (v1 : Int32) (v2 : Int32) (mm : zMem) (r : Nat × Int32 × Int32 × zMem), L_MPainter_toLocal_16 sh fuel v0 v1 v2 mm = some r → (Z p l e { frames := 7, cells := 0, slots := 0, locals := 166 } s m args below meth c D b 4 (MQ below (zQ D b post) args s 0 0 (fun q => b ≤ q)) (zW tA b sh r.2.2.2) n 0 0 104 [(0, .ref (b + (r.1))), (1, .int (r.2.1)), (2, .int (r.2.2.1))] []) → Z p l e { frames := 7, cells := 0, slots := 0, locals := 166 } s m args below meth c D b 4 (MQ below (zQ D b post) args s 0 0 (fun q => b ≤ q)) (zW tA b sh mm) n 0 0 16 [(0, .ref (b + v0)), (1, .int v1), (2, .int v2)] [] := by
  intro fuel
  induction fuel with
  | zero =>
    intro v0 v1 v2 mm r h
    cases h
  | succ fu ih =>
    intro v0 v1 v2 mm r h hx0
    rw [L_MPainter_toLocal_16] at h
    refine zr_iload_n F zd_MPainter_toLocal_16 rfl ?_
    refine zr_iconstv (v := 3) F zd_MPainter_toLocal_17 (by decide) ?_
    refine zr_icmp_ge F 104 zd_MPainter_toLocal_18 (by decide) (fun hb10 => ?_) (fun hb10 => ?_)
    ·
      rw [if_pos hb10] at h
      obtain rfl := Option.some.inj h
      refine zr_loc (L' := [(0, .ref (b + v0)), (1, .int v1), (2, .int v2)]) ⟨rfl, rfl, rfl, trivial⟩ ?_
      exact hx0 
    ·
      rw [if_neg hb10] at h
      refine zr_iconstv (v := 0) F zd_MPainter_toLocal_21 (by decide) ?_
      refine zr_istore_n F zd_MPainter_toLocal_22 (by decide) ?_
      obtain ⟨q41, eq41, h⟩ := zoB_s h
      refine zr_loc (L' := [(0, .ref (b + v0)), (1, .int v1), (2, .int v2), (3, .int 0)]) ⟨rfl, rfl, rfl, rfl, trivial⟩ ?_
      refine lp_MPainter_toLocal_23 F _ _ _ _ _ _ _ eq41 ?_
      ·
        refine zr_aload_n F zd_MPainter_toLocal_74 rfl ?_
        obtain ⟨le43, hs42, h⟩ := zoS_s h
        obtain ⟨a44, ea44, h⟩ := zoB_s h
        refine zr_get F 13 17 zd_MPainter_toLocal_75 (zW_o hs42 (by decide)) rfl (by decide) zw_1597 rfl (by rfl) ?_
        refine zr_tor ea44 ?_
        refine zr_iconstv (v := 4) F zd_MPainter_toLocal_78 (by decide) ?_
        refine zr_iload_n F zd_MPainter_toLocal_79 rfl ?_
        refine zr_imul F zd_MPainter_toLocal_80 ?_
        refine zr_iconstv (v := 3) F zd_MPainter_toLocal_81 (by decide) ?_
        refine zr_iadd F zd_MPainter_toLocal_82 ?_
        refine zr_pcn 83 rfl ?_
        refine zr_aload_n F zd_MPainter_toLocal_83 rfl ?_
        obtain ⟨le46, hs45, h⟩ := zoS_s h
        obtain ⟨a47, ea47, h⟩ := zoB_s h
        refine zr_get F 13 5 zd_MPainter_toLocal_84 (zW_o hs45 (by decide)) rfl (by decide) zw_1581 rfl (by rfl) ?_
        refine zr_tor ea47 ?_
        obtain ⟨le49, hs48, h⟩ := zoS_s h
        obtain ⟨a50, ea50, h⟩ := zoB_s h
        refine zr_get F 15 21 zd_MPainter_toLocal_87 (zW_o hs48 (by decide)) rfl (by decide) zw_1380 rfl (by rfl) ?_
        refine zr_tor ea50 ?_
        refine zr_iconstv (v := 3) F zd_MPainter_toLocal_90 (by decide) ?_
        refine zr_iload_n F zd_MPainter_toLocal_91 rfl ?_
        refine zr_imul F zd_MPainter_toLocal_92 ?_
        refine zr_iload_n F zd_MPainter_toLocal_93 rfl ?_
        refine zr_iadd F zd_MPainter_toLocal_94 ?_
        refine zr_pcn 95 rfl ?_
        obtain ⟨i51, ei51, h⟩ := zoL_s h
        rw [← ei51]
        obtain ⟨le53, hs52, h⟩ := zoS_s h
        obtain ⟨hi54, h⟩ := zoI_s h
        refine zr_iald F zd_MPainter_toLocal_95 (zW_a0 hs52) hi54 ?_
        refine zr_i2l F zd_MPainter_toLocal_96 ?_
        obtain ⟨x55, ex55, h⟩ := zoL_s h
        rw [← ex55]
        obtain ⟨i56, ei56, h⟩ := zoL_s h
        rw [← ei56]
        obtain ⟨le58, hs57, h⟩ := zoS_s h
        obtain ⟨hi59, h⟩ := zoI_s h
        refine zr_last F zd_MPainter_toLocal_97 (zW_a2 hs57) hi59 ?_
        obtain ⟨mm60, emm60, h⟩ := zoL_s h
        refine zr_norm (zW tA b sh mm60) _ (by rw [emm60]; exact zW_s2 hs57) rfl ?_
        refine zr_iinc (v := (q41.2.2.1 + 1)) F zd_MPainter_toLocal_98 rfl rfl (by decide) ?_
        refine zr_goto F 16 zd_MPainter_toLocal_101 (by decide) ?_
        refine zr_loc (L' := [(0, .ref (b + (q41.1))), (1, .int (q41.2.1)), (2, .int (q41.2.2.1 + 1))]) ⟨rfl, rfl, rfl, trivial⟩ ?_
        exact ih _ _ _ _ _ h hx0
def F_MPainter_toLocal (sh : zSh) (mm : zMem) (o : Nat) (x0_ : Int32) : Option zMem := zoS (sh o) 13 (fun le2 => Option.bind (mm.2.2 o 5) (fun a3 => zoS (sh a3) 15 (fun le5 => Option.bind (mm.2.2 a3 22) (fun a6 => zoS (sh o) 13 (fun le8 => Option.bind (F_MPainter_toTurn sh mm o a6 (3 * x0_)) (fun p9 => Option.bind (L_MPainter_toLocal_16 sh zfuel o x0_ 0 p9) (fun q61 => some (q61.2.2.2))))))))
set_option maxHeartbeats 4000000 in
set_option maxRecDepth 100000 in
theorem k_MPainter_toLocal (l : Launch) (D : va_G) (tA : Nat → ClassId) (b : Nat) (sh : zSh) (n : Nat) {mm : zMem} {o : Nat} {x0_ : Int32} {r : zMem} (h : F_MPainter_toLocal sh mm o x0_ = some r) : zM l D tA b zy_MPainter_toLocal zb_MPainter_toLocal 4 none 7 166 0 0 [.ref (b + o), .int x0_] (zW tA b sh mm) n (zE none (zW tA b sh r) n) := by
  unfold F_MPainter_toLocal at h
  refine zM_of (own := "OrreryBoxModel$Painter") (plainFor_of_name (by decide)) rfl (Nat.le_of_ble_eq_true rfl) (fun p e s m below meth c F hr hin hH => ?_)
  refine zr_aload_n F zd_MPainter_toLocal_0 rfl ?_
  refine zr_aload_n F zd_MPainter_toLocal_1 rfl ?_
  obtain ⟨le2, hs1, h⟩ := zoS_s h
  obtain ⟨a3, ea3, h⟩ := zoB_s h
  refine zr_get F 13 5 zd_MPainter_toLocal_2 (zW_o hs1 (by decide)) rfl (by decide) zw_1581 rfl (by rfl) ?_
  refine zr_tor ea3 ?_
  obtain ⟨le5, hs4, h⟩ := zoS_s h
  obtain ⟨a6, ea6, h⟩ := zoB_s h
  refine zr_get F 15 22 zd_MPainter_toLocal_5 (zW_o hs4 (by decide)) rfl (by decide) zw_1383 rfl (by rfl) ?_
  refine zr_tor ea6 ?_
  refine zr_iconstv (v := 3) F zd_MPainter_toLocal_8 (by decide) ?_
  refine zr_iload_n F zd_MPainter_toLocal_9 rfl ?_
  refine zr_imul F zd_MPainter_toLocal_10 ?_
  refine zr_pcn 11 rfl ?_
  obtain ⟨le8, hs7, h⟩ := zoS_s h
  obtain ⟨p9, ep9, h⟩ := zoB_s h
  refine zr_callV0 F (k_MPainter_toTurn l D tA b sh _ ep9) zd_MPainter_toLocal_11 (zW_o hs7 (by decide)) rfl zs_MPainter_138 rfl zq_MPainter_toTurn rfl rfl ⟨(Nat.le_of_ble_eq_true rfl), (Nat.le_of_ble_eq_true rfl)⟩ (Nat.le_of_ble_eq_true rfl) ⟨(Nat.le_of_ble_eq_true rfl), (Nat.le_of_ble_eq_true rfl)⟩ ?_
  refine zr_iconstv (v := 0) F zd_MPainter_toLocal_14 (by decide) ?_
  refine zr_istore_n F zd_MPainter_toLocal_15 (by decide) ?_
  obtain ⟨q61, eq61, h⟩ := zoB_s h
  refine zr_loc (L' := [(0, .ref (b + o)), (1, .int x0_), (2, .int 0)]) ⟨rfl, rfl, rfl, trivial⟩ ?_
  refine lp_MPainter_toLocal_16 F _ _ _ _ _ _ eq61 ?_
  ·
    obtain rfl := Option.some.inj h
    exact zr_vret F hr zd_MPainter_toLocal_104 (Nat.le_of_ble_eq_true rfl) (Nat.le_of_ble_eq_true rfl) ⟨rfl, rfl, rfl⟩
abbrev zb_MPainter_toWorld : ByteArray := prog_16_method_12_code
def zy_MPainter_toWorld : MethodName := ⟨"OrreryBoxModel$Painter", "toWorld", "(I)V"⟩
theorem zc_MPainter_toWorld : Cond.code zy_MPainter_toWorld zb_MPainter_toWorld 4 none ∈ gw := gw_t 1996 (by decide +kernel) rfl
theorem zq_MPainter_toWorld : zy_MPainter_toWorld.cls ≠ "java/lang/invoke/MethodHandle" ∧ zy_MPainter_toWorld.cls ≠ "java/lang/invoke/VarHandle" ∧ (parseMethodDescriptor zy_MPainter_toWorld.desc).map (fun d => d.parameters.length) = some 1 := by decide +kernel
theorem zd_MPainter_toWorld_0 : decode zb_MPainter_toWorld 0 = .ok (.iconst 0, 1) := by decide +kernel
theorem zd_MPainter_toWorld_1 : decode zb_MPainter_toWorld 1 = .ok (.istore_n 2, 1) := by decide +kernel
theorem zd_MPainter_toWorld_2 : decode zb_MPainter_toWorld 2 = .ok (.iload_n 1, 1) := by decide +kernel
theorem zd_MPainter_toWorld_3 : decode zb_MPainter_toWorld 3 = .ok (.istore_n 3, 1) := by decide +kernel
theorem zd_MPainter_toWorld_4 : decode zb_MPainter_toWorld 4 = .ok (.iload_n 3, 1) := by decide +kernel
theorem zd_MPainter_toWorld_5 : decode zb_MPainter_toWorld 5 = .ok (.ifCond .lt 26, 3) := by decide +kernel
theorem zd_MPainter_toWorld_8 : decode zb_MPainter_toWorld 8 = .ok (.aload_n 0, 1) := by decide +kernel
theorem zd_MPainter_toWorld_9 : decode zb_MPainter_toWorld 9 = .ok (.getfield 30, 3) := by decide +kernel
theorem zd_MPainter_toWorld_12 : decode zb_MPainter_toWorld 12 = .ok (.iload_n 2, 1) := by decide +kernel
theorem zd_MPainter_toWorld_13 : decode zb_MPainter_toWorld 13 = .ok (.iload_n 3, 1) := by decide +kernel
theorem zd_MPainter_toWorld_14 : decode zb_MPainter_toWorld 14 = .ok (.iastore, 1) := by decide +kernel
theorem zd_MPainter_toWorld_15 : decode zb_MPainter_toWorld 15 = .ok (.iinc 2 1, 3) := by decide +kernel
theorem zd_MPainter_toWorld_18 : decode zb_MPainter_toWorld 18 = .ok (.aload_n 0, 1) := by decide +kernel
theorem zd_MPainter_toWorld_19 : decode zb_MPainter_toWorld 19 = .ok (.getfield 129, 3) := by decide +kernel
theorem zd_MPainter_toWorld_22 : decode zb_MPainter_toWorld 22 = .ok (.getfield 148, 3) := by decide +kernel
theorem zd_MPainter_toWorld_25 : decode zb_MPainter_toWorld 25 = .ok (.iload_n 3, 1) := by decide +kernel
theorem zd_MPainter_toWorld_26 : decode zb_MPainter_toWorld 26 = .ok (.iaload, 1) := by decide +kernel
theorem zd_MPainter_toWorld_27 : decode zb_MPainter_toWorld 27 = .ok (.istore_n 3, 1) := by decide +kernel
theorem zd_MPainter_toWorld_28 : decode zb_MPainter_toWorld 28 = .ok (.goto (-24), 3) := by decide +kernel
theorem zd_MPainter_toWorld_31 : decode zb_MPainter_toWorld 31 = .ok (.aload_n 0, 1) := by decide +kernel
theorem zd_MPainter_toWorld_32 : decode zb_MPainter_toWorld 32 = .ok (.aload_n 0, 1) := by decide +kernel
theorem zd_MPainter_toWorld_33 : decode zb_MPainter_toWorld 33 = .ok (.getfield 30, 3) := by decide +kernel
theorem zd_MPainter_toWorld_36 : decode zb_MPainter_toWorld 36 = .ok (.iload_n 2, 1) := by decide +kernel
theorem zd_MPainter_toWorld_37 : decode zb_MPainter_toWorld 37 = .ok (.iconst 1, 1) := by decide +kernel
theorem zd_MPainter_toWorld_38 : decode zb_MPainter_toWorld 38 = .ok (.isub, 1) := by decide +kernel
theorem zd_MPainter_toWorld_39 : decode zb_MPainter_toWorld 39 = .ok (.iaload, 1) := by decide +kernel
theorem zd_MPainter_toWorld_40 : decode zb_MPainter_toWorld 40 = .ok (.invokevirtual 151, 3) := by decide +kernel
theorem zd_MPainter_toWorld_43 : decode zb_MPainter_toWorld 43 = .ok (.iconst 0, 1) := by decide +kernel
theorem zd_MPainter_toWorld_44 : decode zb_MPainter_toWorld 44 = .ok (.istore_n 3, 1) := by decide +kernel
theorem zd_MPainter_toWorld_45 : decode zb_MPainter_toWorld 45 = .ok (.iload_n 3, 1) := by decide +kernel
theorem zd_MPainter_toWorld_46 : decode zb_MPainter_toWorld 46 = .ok (.bipush 12, 2) := by decide +kernel
theorem zd_MPainter_toWorld_48 : decode zb_MPainter_toWorld 48 = .ok (.if_icmp .ge 21, 3) := by decide +kernel
theorem zd_MPainter_toWorld_51 : decode zb_MPainter_toWorld 51 = .ok (.aload_n 0, 1) := by decide +kernel
theorem zd_MPainter_toWorld_52 : decode zb_MPainter_toWorld 52 = .ok (.getfield 9, 3) := by decide +kernel
theorem zd_MPainter_toWorld_55 : decode zb_MPainter_toWorld 55 = .ok (.iload_n 3, 1) := by decide +kernel
theorem zd_MPainter_toWorld_56 : decode zb_MPainter_toWorld 56 = .ok (.aload_n 0, 1) := by decide +kernel
theorem zd_MPainter_toWorld_57 : decode zb_MPainter_toWorld 57 = .ok (.getfield 21, 3) := by decide +kernel
theorem zd_MPainter_toWorld_60 : decode zb_MPainter_toWorld 60 = .ok (.iload_n 3, 1) := by decide +kernel
theorem zd_MPainter_toWorld_61 : decode zb_MPainter_toWorld 61 = .ok (.laload, 1) := by decide +kernel
theorem zd_MPainter_toWorld_62 : decode zb_MPainter_toWorld 62 = .ok (.lastore, 1) := by decide +kernel
theorem zd_MPainter_toWorld_63 : decode zb_MPainter_toWorld 63 = .ok (.iinc 3 1, 3) := by decide +kernel
theorem zd_MPainter_toWorld_66 : decode zb_MPainter_toWorld 66 = .ok (.goto (-21), 3) := by decide +kernel
theorem zd_MPainter_toWorld_69 : decode zb_MPainter_toWorld 69 = .ok (.iload_n 2, 1) := by decide +kernel
theorem zd_MPainter_toWorld_70 : decode zb_MPainter_toWorld 70 = .ok (.iconst 2, 1) := by decide +kernel
theorem zd_MPainter_toWorld_71 : decode zb_MPainter_toWorld 71 = .ok (.isub, 1) := by decide +kernel
theorem zd_MPainter_toWorld_72 : decode zb_MPainter_toWorld 72 = .ok (.istore_n 3, 1) := by decide +kernel
theorem zd_MPainter_toWorld_73 : decode zb_MPainter_toWorld 73 = .ok (.iload_n 3, 1) := by decide +kernel
theorem zd_MPainter_toWorld_74 : decode zb_MPainter_toWorld 74 = .ok (.ifCond .lt 31, 3) := by decide +kernel
theorem zd_MPainter_toWorld_77 : decode zb_MPainter_toWorld 77 = .ok (.aload_n 0, 1) := by decide +kernel
theorem zd_MPainter_toWorld_78 : decode zb_MPainter_toWorld 78 = .ok (.aload_n 0, 1) := by decide +kernel
theorem zd_MPainter_toWorld_79 : decode zb_MPainter_toWorld 79 = .ok (.getfield 30, 3) := by decide +kernel
theorem zd_MPainter_toWorld_82 : decode zb_MPainter_toWorld 82 = .ok (.iload_n 3, 1) := by decide +kernel
theorem zd_MPainter_toWorld_83 : decode zb_MPainter_toWorld 83 = .ok (.iaload, 1) := by decide +kernel
theorem zd_MPainter_toWorld_84 : decode zb_MPainter_toWorld 84 = .ok (.invokevirtual 151, 3) := by decide +kernel
theorem zd_MPainter_toWorld_87 : decode zb_MPainter_toWorld 87 = .ok (.aload_n 0, 1) := by decide +kernel
theorem zd_MPainter_toWorld_88 : decode zb_MPainter_toWorld 88 = .ok (.aload_n 0, 1) := by decide +kernel
theorem zd_MPainter_toWorld_89 : decode zb_MPainter_toWorld 89 = .ok (.getfield 9, 3) := by decide +kernel
theorem zd_MPainter_toWorld_92 : decode zb_MPainter_toWorld 92 = .ok (.aload_n 0, 1) := by decide +kernel
theorem zd_MPainter_toWorld_93 : decode zb_MPainter_toWorld 93 = .ok (.getfield 21, 3) := by decide +kernel
theorem zd_MPainter_toWorld_96 : decode zb_MPainter_toWorld 96 = .ok (.invokevirtual 125, 3) := by decide +kernel
theorem zd_MPainter_toWorld_99 : decode zb_MPainter_toWorld 99 = .ok (.iinc 3 (-1), 3) := by decide +kernel
theorem zd_MPainter_toWorld_102 : decode zb_MPainter_toWorld 102 = .ok (.goto (-29), 3) := by decide +kernel
theorem zd_MPainter_toWorld_105 : decode zb_MPainter_toWorld 105 = .ok (.return_, 1) := by decide +kernel
theorem zw_1373 : (Jvm.Cond.fieldLink "OrreryBoxModel$Painter" (148 : Nat) "OrreryBoxModel$Scene" "parent" "[I") ∈ gw := gw_t 1373 (by decide +kernel) rfl
def L_MPainter_toWorld_4 (sh : zSh) (fuel : Nat) (v0 : Nat) (v2 : Int32) (v3 : Int32) (mm : zMem) : Option (Nat × Int32 × Int32 × zMem) := match fuel with
  | 0 => none
  | fu + 1 => (if v3 < 0 then some (v0, v2, v3, mm) else zoS (sh v0) 13 (fun le3 => Option.bind (mm.2.2 v0 20) (fun a4 => zoS (sh a4) 100 (fun le6 => if (v2 : Int32) < 0 ∨ le6 ≤ (v2 : Int32).toNatClampNeg then none else zoL (mI mm a4 (v2 : Int32).toNatClampNeg v3) (fun mm8 => zoS (sh v0) 13 (fun le10 => Option.bind (mm8.2.2 v0 5) (fun a11 => zoS (sh a11) 15 (fun le13 => Option.bind (mm8.2.2 a11 19) (fun a14 => zoS (sh a14) 100 (fun le16 => if (v3 : Int32) < 0 ∨ le16 ≤ (v3 : Int32).toNatClampNeg then none else zoL (mm8.1 a14 (v3 : Int32).toNatClampNeg) (fun x18 => L_MPainter_toWorld_4 sh fu v0 (v2 + 1) x18 mm8)))))))))))
set_option maxHeartbeats 4000000 in
set_option maxRecDepth 100000 in
theorem lp_MPainter_toWorld_4 {p : Program} {l : Launch} {e : Env} {s : State} {m : MethodId} {args : Array Value} {below : List Frame} {meth : Method} {c : Code} {D : va_G} {tA : Nat → ClassId} {b n : Nat} {post : Option Value → zV → Nat → Prop} {sh : zSh} (F : zF p s m args meth c zb_MPainter_toWorld 4 "OrreryBoxModel$Painter" D tA b) : ∀ (fuel : Nat) (v0 : Nat) (v2 : Int32) (v3 : Int32) (mm : zMem) (r : Nat × Int32 × Int32 × zMem), L_MPainter_toWorld_4 sh fuel v0 v2 v3 mm = some r → (Z p l e { frames := 8, cells := 0, slots := 0, locals := 189 } s m args below meth c D b 4 (MQ below (zQ D b post) args s 0 0 (fun q => b ≤ q)) (zW tA b sh r.2.2.2) n 0 0 31 [(0, .ref (b + (r.1))), (2, .int (r.2.1)), (3, .int (r.2.2.1))] []) → Z p l e { frames := 8, cells := 0, slots := 0, locals := 189 } s m args below meth c D b 4 (MQ below (zQ D b post) args s 0 0 (fun q => b ≤ q)) (zW tA b sh mm) n 0 0 4 [(0, .ref (b + v0)), (2, .int v2), (3, .int v3)] [] := by
  intro fuel
  induction fuel with
  | zero =>
    intro v0 v2 v3 mm r h
    cases h
  | succ fu ih =>
    intro v0 v2 v3 mm r h hx0
    rw [L_MPainter_toWorld_4] at h
    refine zr_iload_n F zd_MPainter_toWorld_4 rfl ?_
    refine zr_if_lt F 31 zd_MPainter_toWorld_5 (by decide) (fun hb1 => ?_) (fun hb1 => ?_)
    ·
      rw [if_pos hb1] at h
      obtain rfl := Option.some.inj h
      refine zr_loc (L' := [(0, .ref (b + v0)), (2, .int v2), (3, .int v3)]) ⟨rfl, rfl, rfl, trivial⟩ ?_
      exact hx0 
    ·
      rw [if_neg hb1] at h
      refine zr_aload_n F zd_MPainter_toWorld_8 rfl ?_
      refine zr_pcn 9 rfl ?_
      obtain ⟨le3, hs2, h⟩ := zoS_s h
      obtain ⟨a4, ea4, h⟩ := zoB_s h
      refine zr_get F 13 20 zd_MPainter_toWorld_9 (zW_o hs2 (by decide)) rfl (by decide) zw_1600 rfl (by rfl) ?_
      refine zr_tor ea4 ?_
      refine zr_iload_n F zd_MPainter_toWorld_12 rfl ?_
      refine zr_iload_n F zd_MPainter_toWorld_13 rfl ?_
      obtain ⟨le6, hs5, h⟩ := zoS_s h
      obtain ⟨hi7, h⟩ := zoI_s h
      refine zr_iast F zd_MPainter_toWorld_14 (zW_a0 hs5) hi7 ?_
      obtain ⟨mm8, emm8, h⟩ := zoL_s h
      refine zr_norm (zW tA b sh mm8) _ (by rw [emm8]; exact zW_s0 hs5) rfl ?_
      refine zr_iinc (v := (v2 + 1)) F zd_MPainter_toWorld_15 rfl rfl (by decide) ?_
      refine zr_aload_n F zd_MPainter_toWorld_18 rfl ?_
      obtain ⟨le10, hs9, h⟩ := zoS_s h
      obtain ⟨a11, ea11, h⟩ := zoB_s h
      refine zr_get F 13 5 zd_MPainter_toWorld_19 (zW_o hs9 (by decide)) rfl (by decide) zw_1581 rfl (by rfl) ?_
      refine zr_tor ea11 ?_
      obtain ⟨le13, hs12, h⟩ := zoS_s h
      obtain ⟨a14, ea14, h⟩ := zoB_s h
      refine zr_get F 15 19 zd_MPainter_toWorld_22 (zW_o hs12 (by decide)) rfl (by decide) zw_1373 rfl (by rfl) ?_
      refine zr_tor ea14 ?_
      refine zr_pcn 25 rfl ?_
      refine zr_iload_n F zd_MPainter_toWorld_25 rfl ?_
      obtain ⟨le16, hs15, h⟩ := zoS_s h
      obtain ⟨hi17, h⟩ := zoI_s h
      refine zr_iald F zd_MPainter_toWorld_26 (zW_a0 hs15) hi17 ?_
      obtain ⟨x18, ex18, h⟩ := zoL_s h
      rw [← ex18]
      refine zr_istore_n F zd_MPainter_toWorld_27 (by decide) ?_
      refine zr_goto F 4 zd_MPainter_toWorld_28 (by decide) ?_
      refine zr_loc (L' := [(0, .ref (b + v0)), (2, .int (v2 + 1)), (3, .int x18)]) ⟨rfl, rfl, rfl, trivial⟩ ?_
      exact ih _ _ _ _ _ h hx0
theorem zw_1997 : (Jvm.Cond.methodLink "OrreryBoxModel$Painter" (151 : Nat) ({ cls := "OrreryBoxModel$Painter", name := "toLocal", desc := "(I)V" } : Jvm.MethodName)) ∈ gw := gw_t 1997 (by decide +kernel) rfl
theorem zw_1999 : (Jvm.Cond.instanceMethod ({ cls := "OrreryBoxModel$Painter", name := "toLocal", desc := "(I)V" } : Jvm.MethodName)) ∈ gw := gw_t 1999 (by decide +kernel) rfl
theorem zv_91 : (Jvm.Cond.selects "OrreryBoxModel$Painter" (⟨"OrreryBoxModel$Painter", "toLocal", "(I)V"⟩ : MethodName) ⟨"OrreryBoxModel$Painter", "toLocal", "(I)V"⟩) ∈ gw := gw_s 91 (by decide +kernel) rfl
theorem zs_MPainter_151 : zwV "OrreryBoxModel$Painter" 151 "OrreryBoxModel$Painter" zy_MPainter_toLocal zb_MPainter_toLocal 4 none := ⟨zw_1997, zw_1999, zv_91, zw_17, zc_MPainter_toLocal⟩
def L_MPainter_toWorld_45 (sh : zSh) (fuel : Nat) (v0 : Nat) (v2 : Int32) (v3 : Int32) (mm : zMem) : Option (Nat × Int32 × Int32 × zMem) := match fuel with
  | 0 => none
  | fu + 1 => (if 12 ≤ v3 then some (v0, v2, v3, mm) else zoS (sh v0) 13 (fun le33 => Option.bind (mm.2.2 v0 14) (fun a34 => zoS (sh v0) 13 (fun le36 => Option.bind (mm.2.2 v0 17) (fun a37 => zoS (sh a37) 102 (fun le39 => if (v3 : Int32) < 0 ∨ le39 ≤ (v3 : Int32).toNatClampNeg then none else zoL (mm.2.1 a37 (v3 : Int32).toNatClampNeg) (fun x41 => zoS (sh a34) 102 (fun le43 => if (v3 : Int32) < 0 ∨ le43 ≤ (v3 : Int32).toNatClampNeg then none else zoL (mL mm a34 (v3 : Int32).toNatClampNeg x41) (fun mm45 => L_MPainter_toWorld_45 sh fu v0 v2 (v3 + 1) mm45)))))))))
set_option maxHeartbeats 4000000 in
set_option maxRecDepth 100000 in
theorem lp_MPainter_toWorld_45 {p : Program} {l : Launch} {e : Env} {s : State} {m : MethodId} {args : Array Value} {below : List Frame} {meth : Method} {c : Code} {D : va_G} {tA : Nat → ClassId} {b n : Nat} {post : Option Value → zV → Nat → Prop} {sh : zSh} (F : zF p s m args meth c zb_MPainter_toWorld 4 "OrreryBoxModel$Painter" D tA b) : ∀ (fuel : Nat) (v0 : Nat) (v2 : Int32) (v3 : Int32) (mm : zMem) (r : Nat × Int32 × Int32 × zMem), L_MPainter_toWorld_45 sh fuel v0 v2 v3 mm = some r → (Z p l e { frames := 8, cells := 0, slots := 0, locals := 189 } s m args below meth c D b 4 (MQ below (zQ D b post) args s 0 0 (fun q => b ≤ q)) (zW tA b sh r.2.2.2) n 0 0 69 [(0, .ref (b + (r.1))), (2, .int (r.2.1)), (3, .int (r.2.2.1))] []) → Z p l e { frames := 8, cells := 0, slots := 0, locals := 189 } s m args below meth c D b 4 (MQ below (zQ D b post) args s 0 0 (fun q => b ≤ q)) (zW tA b sh mm) n 0 0 45 [(0, .ref (b + v0)), (2, .int v2), (3, .int v3)] [] := by
  intro fuel
  induction fuel with
  | zero =>
    intro v0 v2 v3 mm r h
    cases h
  | succ fu ih =>
    intro v0 v2 v3 mm r h hx0
    rw [L_MPainter_toWorld_45] at h
    refine zr_iload_n F zd_MPainter_toWorld_45 rfl ?_
    refine zr_bipushv (v := 12) F zd_MPainter_toWorld_46 (by decide) ?_
    refine zr_pcn 48 rfl ?_
    refine zr_icmp_ge F 69 zd_MPainter_toWorld_48 (by decide) (fun hb31 => ?_) (fun hb31 => ?_)
    ·
      rw [if_pos hb31] at h
      obtain rfl := Option.some.inj h
      refine zr_loc (L' := [(0, .ref (b + v0)), (2, .int v2), (3, .int v3)]) ⟨rfl, rfl, rfl, trivial⟩ ?_
      exact hx0 
    ·
      rw [if_neg hb31] at h
      refine zr_aload_n F zd_MPainter_toWorld_51 rfl ?_
      obtain ⟨le33, hs32, h⟩ := zoS_s h
      obtain ⟨a34, ea34, h⟩ := zoB_s h
      refine zr_get F 13 14 zd_MPainter_toWorld_52 (zW_o hs32 (by decide)) rfl (by decide) zw_1593 rfl (by rfl) ?_
      refine zr_tor ea34 ?_
      refine zr_iload_n F zd_MPainter_toWorld_55 rfl ?_
      refine zr_aload_n F zd_MPainter_toWorld_56 rfl ?_
      obtain ⟨le36, hs35, h⟩ := zoS_s h
      obtain ⟨a37, ea37, h⟩ := zoB_s h
      refine zr_get F 13 17 zd_MPainter_toWorld_57 (zW_o hs35 (by decide)) rfl (by decide) zw_1597 rfl (by rfl) ?_
      refine zr_tor ea37 ?_
      refine zr_iload_n F zd_MPainter_toWorld_60 rfl ?_
      obtain ⟨le39, hs38, h⟩ := zoS_s h
      obtain ⟨hi40, h⟩ := zoI_s h
      refine zr_lald F zd_MPainter_toWorld_61 (zW_a2 hs38) hi40 ?_
      refine zr_pcn 62 rfl ?_
      obtain ⟨x41, ex41, h⟩ := zoL_s h
      rw [← ex41]
      obtain ⟨le43, hs42, h⟩ := zoS_s h
      obtain ⟨hi44, h⟩ := zoI_s h
      refine zr_last F zd_MPainter_toWorld_62 (zW_a2 hs42) hi44 ?_
      obtain ⟨mm45, emm45, h⟩ := zoL_s h
      refine zr_norm (zW tA b sh mm45) _ (by rw [emm45]; exact zW_s2 hs42) rfl ?_
      refine zr_iinc (v := (v3 + 1)) F zd_MPainter_toWorld_63 rfl rfl (by decide) ?_
      refine zr_goto F 45 zd_MPainter_toWorld_66 (by decide) ?_
      refine zr_loc (L' := [(0, .ref (b + v0)), (2, .int v2), (3, .int (v3 + 1))]) ⟨rfl, rfl, rfl, trivial⟩ ?_
      exact ih _ _ _ _ _ h hx0
def L_MPainter_toWorld_73 (sh : zSh) (fuel : Nat) (v0 : Nat) (v3 : Int32) (mm : zMem) : Option (Nat × Int32 × zMem) := match fuel with
  | 0 => none
  | fu + 1 => (if v3 < 0 then some (v0, v3, mm) else zoS (sh v0) 13 (fun le50 => Option.bind (mm.2.2 v0 20) (fun a51 => zoS (sh a51) 100 (fun le53 => if (v3 : Int32) < 0 ∨ le53 ≤ (v3 : Int32).toNatClampNeg then none else zoS (sh v0) 13 (fun le56 => zoL (mm.1 a51 (v3 : Int32).toNatClampNeg) (fun x57 => Option.bind (F_MPainter_toLocal sh mm v0 x57) (fun p58 => zoS (sh v0) 13 (fun le60 => Option.bind (p58.2.2 v0 14) (fun a61 => zoS (sh v0) 13 (fun le63 => Option.bind (p58.2.2 v0 17) (fun a64 => zoS (sh v0) 13 (fun le66 => Option.bind (F_MPainter_times sh p58 v0 a61 a64) (fun p67 => L_MPainter_toWorld_73 sh fu v0 (v3 + (-1)) p67)))))))))))))
set_option maxHeartbeats 4000000 in
set_option maxRecDepth 100000 in
theorem lp_MPainter_toWorld_73 {p : Program} {l : Launch} {e : Env} {s : State} {m : MethodId} {args : Array Value} {below : List Frame} {meth : Method} {c : Code} {D : va_G} {tA : Nat → ClassId} {b n : Nat} {post : Option Value → zV → Nat → Prop} {sh : zSh} (F : zF p s m args meth c zb_MPainter_toWorld 4 "OrreryBoxModel$Painter" D tA b) : ∀ (fuel : Nat) (v0 : Nat) (v3 : Int32) (mm : zMem) (r : Nat × Int32 × zMem), L_MPainter_toWorld_73 sh fuel v0 v3 mm = some r → (Z p l e { frames := 8, cells := 0, slots := 0, locals := 189 } s m args below meth c D b 4 (MQ below (zQ D b post) args s 0 0 (fun q => b ≤ q)) (zW tA b sh r.2.2) n 0 0 105 [(0, .ref (b + (r.1))), (3, .int (r.2.1))] []) → Z p l e { frames := 8, cells := 0, slots := 0, locals := 189 } s m args below meth c D b 4 (MQ below (zQ D b post) args s 0 0 (fun q => b ≤ q)) (zW tA b sh mm) n 0 0 73 [(0, .ref (b + v0)), (3, .int v3)] [] := by
  intro fuel
  induction fuel with
  | zero =>
    intro v0 v3 mm r h
    cases h
  | succ fu ih =>
    intro v0 v3 mm r h hx0
    rw [L_MPainter_toWorld_73] at h
    refine zr_iload_n F zd_MPainter_toWorld_73 rfl ?_
    refine zr_pcn 74 rfl ?_
    refine zr_if_lt F 105 zd_MPainter_toWorld_74 (by decide) (fun hb48 => ?_) (fun hb48 => ?_)
    ·
      rw [if_pos hb48] at h
      obtain rfl := Option.some.inj h
      refine zr_loc (L' := [(0, .ref (b + v0)), (3, .int v3)]) ⟨rfl, rfl, trivial⟩ ?_
      exact hx0 
    ·
      rw [if_neg hb48] at h
      refine zr_aload_n F zd_MPainter_toWorld_77 rfl ?_
      refine zr_aload_n F zd_MPainter_toWorld_78 rfl ?_
      obtain ⟨le50, hs49, h⟩ := zoS_s h
      obtain ⟨a51, ea51, h⟩ := zoB_s h
      refine zr_get F 13 20 zd_MPainter_toWorld_79 (zW_o hs49 (by decide)) rfl (by decide) zw_1600 rfl (by rfl) ?_
      refine zr_tor ea51 ?_
      refine zr_iload_n F zd_MPainter_toWorld_82 rfl ?_
      obtain ⟨le53, hs52, h⟩ := zoS_s h
      obtain ⟨hi54, h⟩ := zoI_s h
      refine zr_iald F zd_MPainter_toWorld_83 (zW_a0 hs52) hi54 ?_
      obtain ⟨le56, hs55, h⟩ := zoS_s h
      obtain ⟨x57, ex57, h⟩ := zoL_s h
      rw [← ex57]
      obtain ⟨p58, ep58, h⟩ := zoB_s h
      refine zr_callV0 F (k_MPainter_toLocal l D tA b sh _ ep58) zd_MPainter_toWorld_84 (zW_o hs55 (by decide)) rfl zs_MPainter_151 rfl zq_MPainter_toLocal rfl rfl ⟨(Nat.le_of_ble_eq_true rfl), (Nat.le_of_ble_eq_true rfl)⟩ (Nat.le_of_ble_eq_true rfl) ⟨(Nat.le_of_ble_eq_true rfl), (Nat.le_of_ble_eq_true rfl)⟩ ?_
      refine zr_aload_n F zd_MPainter_toWorld_87 rfl ?_
      refine zr_pcn 88 rfl ?_
      refine zr_aload_n F zd_MPainter_toWorld_88 rfl ?_
      obtain ⟨le60, hs59, h⟩ := zoS_s h
      obtain ⟨a61, ea61, h⟩ := zoB_s h
      refine zr_get F 13 14 zd_MPainter_toWorld_89 (zW_o hs59 (by decide)) rfl (by decide) zw_1593 rfl (by rfl) ?_
      refine zr_tor ea61 ?_
      refine zr_aload_n F zd_MPainter_toWorld_92 rfl ?_
      obtain ⟨le63, hs62, h⟩ := zoS_s h
      obtain ⟨a64, ea64, h⟩ := zoB_s h
      refine zr_get F 13 17 zd_MPainter_toWorld_93 (zW_o hs62 (by decide)) rfl (by decide) zw_1597 rfl (by rfl) ?_
      refine zr_tor ea64 ?_
      obtain ⟨le66, hs65, h⟩ := zoS_s h
      obtain ⟨p67, ep67, h⟩ := zoB_s h
      refine zr_callV0 F (k_MPainter_times l D tA b sh _ ep67) zd_MPainter_toWorld_96 (zW_o hs65 (by decide)) rfl zs_MPainter_125 rfl zq_MPainter_times rfl rfl ⟨(Nat.le_of_ble_eq_true rfl), (Nat.le_of_ble_eq_true rfl)⟩ (Nat.le_of_ble_eq_true rfl) ⟨(Nat.le_of_ble_eq_true rfl), (Nat.le_of_ble_eq_true rfl)⟩ ?_
      refine zr_iinc (v := (v3 + (-1))) F zd_MPainter_toWorld_99 rfl rfl (by decide) ?_
      refine zr_goto F 73 zd_MPainter_toWorld_102 (by decide) ?_
      refine zr_loc (L' := [(0, .ref (b + v0)), (3, .int (v3 + (-1)))]) ⟨rfl, rfl, trivial⟩ ?_
      exact ih _ _ _ _ h hx0
def F_MPainter_toWorld (sh : zSh) (mm : zMem) (o : Nat) (x0_ : Int32) : Option zMem := Option.bind (L_MPainter_toWorld_4 sh zfuel o 0 x0_ mm) (fun q19 => zoS (sh (q19.1)) 13 (fun le21 => Option.bind ((q19.2.2.2).2.2 (q19.1) 20) (fun a22 => zoL (q19.2.1 - 1) (fun i23 => zoS (sh a22) 100 (fun le25 => if (i23 : Int32) < 0 ∨ le25 ≤ (i23 : Int32).toNatClampNeg then none else zoS (sh (q19.1)) 13 (fun le28 => zoL ((q19.2.2.2).1 a22 (i23 : Int32).toNatClampNeg) (fun x29 => Option.bind (F_MPainter_toLocal sh (q19.2.2.2) (q19.1) x29) (fun p30 => Option.bind (L_MPainter_toWorld_45 sh zfuel (q19.1) (q19.2.1) 0 p30) (fun q46 => zoL (q46.2.1 - 2) (fun x47 => Option.bind (L_MPainter_toWorld_73 sh zfuel (q46.1) x47 (q46.2.2.2)) (fun q68 => some (q68.2.2))))))))))))
set_option maxHeartbeats 4000000 in
set_option maxRecDepth 100000 in
theorem k_MPainter_toWorld (l : Launch) (D : va_G) (tA : Nat → ClassId) (b : Nat) (sh : zSh) (n : Nat) {mm : zMem} {o : Nat} {x0_ : Int32} {r : zMem} (h : F_MPainter_toWorld sh mm o x0_ = some r) : zM l D tA b zy_MPainter_toWorld zb_MPainter_toWorld 4 none 8 189 0 0 [.ref (b + o), .int x0_] (zW tA b sh mm) n (zE none (zW tA b sh r) n) := by
  unfold F_MPainter_toWorld at h
  refine zM_of (own := "OrreryBoxModel$Painter") (plainFor_of_name (by decide)) rfl (Nat.le_of_ble_eq_true rfl) (fun p e s m below meth c F hr hin hH => ?_)
  refine zr_iconstv (v := 0) F zd_MPainter_toWorld_0 (by decide) ?_
  refine zr_istore_n F zd_MPainter_toWorld_1 (by decide) ?_
  refine zr_iload_n F zd_MPainter_toWorld_2 rfl ?_
  refine zr_istore_n F zd_MPainter_toWorld_3 (by decide) ?_
  obtain ⟨q19, eq19, h⟩ := zoB_s h
  refine zr_loc (L' := [(0, .ref (b + o)), (2, .int 0), (3, .int x0_)]) ⟨rfl, rfl, rfl, trivial⟩ ?_
  refine lp_MPainter_toWorld_4 F _ _ _ _ _ _ eq19 ?_
  ·
    refine zr_aload_n F zd_MPainter_toWorld_31 rfl ?_
    refine zr_aload_n F zd_MPainter_toWorld_32 rfl ?_
    obtain ⟨le21, hs20, h⟩ := zoS_s h
    obtain ⟨a22, ea22, h⟩ := zoB_s h
    refine zr_get F 13 20 zd_MPainter_toWorld_33 (zW_o hs20 (by decide)) rfl (by decide) zw_1600 rfl (by rfl) ?_
    refine zr_tor ea22 ?_
    refine zr_iload_n F zd_MPainter_toWorld_36 rfl ?_
    refine zr_pcn 37 rfl ?_
    refine zr_iconstv (v := 1) F zd_MPainter_toWorld_37 (by decide) ?_
    refine zr_isub F zd_MPainter_toWorld_38 ?_
    obtain ⟨i23, ei23, h⟩ := zoL_s h
    rw [← ei23]
    obtain ⟨le25, hs24, h⟩ := zoS_s h
    obtain ⟨hi26, h⟩ := zoI_s h
    refine zr_iald F zd_MPainter_toWorld_39 (zW_a0 hs24) hi26 ?_
    obtain ⟨le28, hs27, h⟩ := zoS_s h
    obtain ⟨x29, ex29, h⟩ := zoL_s h
    rw [← ex29]
    obtain ⟨p30, ep30, h⟩ := zoB_s h
    refine zr_callV0 F (k_MPainter_toLocal l D tA b sh _ ep30) zd_MPainter_toWorld_40 (zW_o hs27 (by decide)) rfl zs_MPainter_151 rfl zq_MPainter_toLocal rfl rfl ⟨(Nat.le_of_ble_eq_true rfl), (Nat.le_of_ble_eq_true rfl)⟩ (Nat.le_of_ble_eq_true rfl) ⟨(Nat.le_of_ble_eq_true rfl), (Nat.le_of_ble_eq_true rfl)⟩ ?_
    refine zr_iconstv (v := 0) F zd_MPainter_toWorld_43 (by decide) ?_
    refine zr_istore_n F zd_MPainter_toWorld_44 (by decide) ?_
    obtain ⟨q46, eq46, h⟩ := zoB_s h
    refine zr_loc (L' := [(0, .ref (b + (q19.1))), (2, .int (q19.2.1)), (3, .int 0)]) ⟨rfl, rfl, rfl, trivial⟩ ?_
    refine lp_MPainter_toWorld_45 F _ _ _ _ _ _ eq46 ?_
    ·
      refine zr_iload_n F zd_MPainter_toWorld_69 rfl ?_
      refine zr_iconstv (v := 2) F zd_MPainter_toWorld_70 (by decide) ?_
      refine zr_isub F zd_MPainter_toWorld_71 ?_
      obtain ⟨x47, ex47, h⟩ := zoL_s h
      rw [← ex47]
      refine zr_istore_n F zd_MPainter_toWorld_72 (by decide) ?_
      obtain ⟨q68, eq68, h⟩ := zoB_s h
      refine zr_loc (L' := [(0, .ref (b + (q46.1))), (3, .int x47)]) ⟨rfl, rfl, trivial⟩ ?_
      refine lp_MPainter_toWorld_73 F _ _ _ _ _ eq68 ?_
      ·
        obtain rfl := Option.some.inj h
        exact zr_vret F hr zd_MPainter_toWorld_105 (Nat.le_of_ble_eq_true rfl) (Nat.le_of_ble_eq_true rfl) ⟨rfl, rfl, rfl⟩
abbrev zb_MPainter_toView : ByteArray := prog_16_method_13_code
def zy_MPainter_toView : MethodName := ⟨"OrreryBoxModel$Painter", "toView", "()V"⟩
theorem zc_MPainter_toView : Cond.code zy_MPainter_toView zb_MPainter_toView 5 none ∈ gw := gw_t 2075 (by decide +kernel) rfl
theorem zq_MPainter_toView : zy_MPainter_toView.cls ≠ "java/lang/invoke/MethodHandle" ∧ zy_MPainter_toView.cls ≠ "java/lang/invoke/VarHandle" ∧ (parseMethodDescriptor zy_MPainter_toView.desc).map (fun d => d.parameters.length) = some 0 := by decide +kernel
theorem zd_MPainter_toView_0 : decode zb_MPainter_toView 0 = .ok (.aload_n 0, 1) := by decide +kernel
theorem zd_MPainter_toView_1 : decode zb_MPainter_toView 1 = .ok (.aload_n 0, 1) := by decide +kernel
theorem zd_MPainter_toView_2 : decode zb_MPainter_toView 2 = .ok (.getfield 129, 3) := by decide +kernel
theorem zd_MPainter_toView_5 : decode zb_MPainter_toView 5 = .ok (.getfield 155, 3) := by decide +kernel
theorem zd_MPainter_toView_8 : decode zb_MPainter_toView 8 = .ok (.iconst 0, 1) := by decide +kernel
theorem zd_MPainter_toView_9 : decode zb_MPainter_toView 9 = .ok (.invokevirtual 138, 3) := by decide +kernel
theorem zd_MPainter_toView_12 : decode zb_MPainter_toView 12 = .ok (.iconst 0, 1) := by decide +kernel
theorem zd_MPainter_toView_13 : decode zb_MPainter_toView 13 = .ok (.istore_n 1, 1) := by decide +kernel
theorem zd_MPainter_toView_14 : decode zb_MPainter_toView 14 = .ok (.iload_n 1, 1) := by decide +kernel
theorem zd_MPainter_toView_15 : decode zb_MPainter_toView 15 = .ok (.iconst 3, 1) := by decide +kernel
theorem zd_MPainter_toView_16 : decode zb_MPainter_toView 16 = .ok (.if_icmp .ge 91, 3) := by decide +kernel
theorem zd_MPainter_toView_19 : decode zb_MPainter_toView 19 = .ok (.lconst 0, 1) := by decide +kernel
theorem zd_MPainter_toView_20 : decode zb_MPainter_toView 20 = .ok (.lstore_n 2, 1) := by decide +kernel
theorem zd_MPainter_toView_21 : decode zb_MPainter_toView 21 = .ok (.iconst 0, 1) := by decide +kernel
theorem zd_MPainter_toView_22 : decode zb_MPainter_toView 22 = .ok (.istore 4, 2) := by decide +kernel
theorem zd_MPainter_toView_24 : decode zb_MPainter_toView 24 = .ok (.iload 4, 2) := by decide +kernel
theorem zd_MPainter_toView_26 : decode zb_MPainter_toView 26 = .ok (.iconst 3, 1) := by decide +kernel
theorem zd_MPainter_toView_27 : decode zb_MPainter_toView 27 = .ok (.if_icmp .ge 59, 3) := by decide +kernel
theorem zd_MPainter_toView_30 : decode zb_MPainter_toView 30 = .ok (.aload_n 0, 1) := by decide +kernel
theorem zd_MPainter_toView_31 : decode zb_MPainter_toView 31 = .ok (.getfield 15, 3) := by decide +kernel
theorem zd_MPainter_toView_34 : decode zb_MPainter_toView 34 = .ok (.iconst 4, 1) := by decide +kernel
theorem zd_MPainter_toView_35 : decode zb_MPainter_toView 35 = .ok (.iload_n 1, 1) := by decide +kernel
theorem zd_MPainter_toView_36 : decode zb_MPainter_toView 36 = .ok (.imul, 1) := by decide +kernel
theorem zd_MPainter_toView_37 : decode zb_MPainter_toView 37 = .ok (.iload 4, 2) := by decide +kernel
theorem zd_MPainter_toView_39 : decode zb_MPainter_toView 39 = .ok (.iadd, 1) := by decide +kernel
theorem zd_MPainter_toView_40 : decode zb_MPainter_toView 40 = .ok (.aload_n 0, 1) := by decide +kernel
theorem zd_MPainter_toView_41 : decode zb_MPainter_toView 41 = .ok (.getfield 24, 3) := by decide +kernel
theorem zd_MPainter_toView_44 : decode zb_MPainter_toView 44 = .ok (.iconst 4, 1) := by decide +kernel
theorem zd_MPainter_toView_45 : decode zb_MPainter_toView 45 = .ok (.iload 4, 2) := by decide +kernel
theorem zd_MPainter_toView_47 : decode zb_MPainter_toView 47 = .ok (.imul, 1) := by decide +kernel
theorem zd_MPainter_toView_48 : decode zb_MPainter_toView 48 = .ok (.iload_n 1, 1) := by decide +kernel
theorem zd_MPainter_toView_49 : decode zb_MPainter_toView 49 = .ok (.iadd, 1) := by decide +kernel
theorem zd_MPainter_toView_50 : decode zb_MPainter_toView 50 = .ok (.laload, 1) := by decide +kernel
theorem zd_MPainter_toView_51 : decode zb_MPainter_toView 51 = .ok (.lastore, 1) := by decide +kernel
theorem zd_MPainter_toView_52 : decode zb_MPainter_toView 52 = .ok (.lload_n 2, 1) := by decide +kernel
theorem zd_MPainter_toView_53 : decode zb_MPainter_toView 53 = .ok (.aload_n 0, 1) := by decide +kernel
theorem zd_MPainter_toView_54 : decode zb_MPainter_toView 54 = .ok (.getfield 15, 3) := by decide +kernel
theorem zd_MPainter_toView_57 : decode zb_MPainter_toView 57 = .ok (.iconst 4, 1) := by decide +kernel
theorem zd_MPainter_toView_58 : decode zb_MPainter_toView 58 = .ok (.iload_n 1, 1) := by decide +kernel
theorem zd_MPainter_toView_59 : decode zb_MPainter_toView 59 = .ok (.imul, 1) := by decide +kernel
theorem zd_MPainter_toView_60 : decode zb_MPainter_toView 60 = .ok (.iload 4, 2) := by decide +kernel
theorem zd_MPainter_toView_62 : decode zb_MPainter_toView 62 = .ok (.iadd, 1) := by decide +kernel
theorem zd_MPainter_toView_63 : decode zb_MPainter_toView 63 = .ok (.laload, 1) := by decide +kernel
theorem zd_MPainter_toView_64 : decode zb_MPainter_toView 64 = .ok (.aload_n 0, 1) := by decide +kernel
theorem zd_MPainter_toView_65 : decode zb_MPainter_toView 65 = .ok (.getfield 129, 3) := by decide +kernel
theorem zd_MPainter_toView_68 : decode zb_MPainter_toView 68 = .ok (.getfield 158, 3) := by decide +kernel
theorem zd_MPainter_toView_71 : decode zb_MPainter_toView 71 = .ok (.iload 4, 2) := by decide +kernel
theorem zd_MPainter_toView_73 : decode zb_MPainter_toView 73 = .ok (.iaload, 1) := by decide +kernel
theorem zd_MPainter_toView_74 : decode zb_MPainter_toView 74 = .ok (.i2l, 1) := by decide +kernel
theorem zd_MPainter_toView_75 : decode zb_MPainter_toView 75 = .ok (.invokestatic 108, 3) := by decide +kernel
theorem zd_MPainter_toView_78 : decode zb_MPainter_toView 78 = .ok (.ladd, 1) := by decide +kernel
theorem zd_MPainter_toView_79 : decode zb_MPainter_toView 79 = .ok (.lstore_n 2, 1) := by decide +kernel
theorem zd_MPainter_toView_80 : decode zb_MPainter_toView 80 = .ok (.iinc 4 1, 3) := by decide +kernel
theorem zd_MPainter_toView_83 : decode zb_MPainter_toView 83 = .ok (.goto (-59), 3) := by decide +kernel
theorem zd_MPainter_toView_86 : decode zb_MPainter_toView 86 = .ok (.aload_n 0, 1) := by decide +kernel
theorem zd_MPainter_toView_87 : decode zb_MPainter_toView 87 = .ok (.getfield 15, 3) := by decide +kernel
theorem zd_MPainter_toView_90 : decode zb_MPainter_toView 90 = .ok (.iconst 4, 1) := by decide +kernel
theorem zd_MPainter_toView_91 : decode zb_MPainter_toView 91 = .ok (.iload_n 1, 1) := by decide +kernel
theorem zd_MPainter_toView_92 : decode zb_MPainter_toView 92 = .ok (.imul, 1) := by decide +kernel
theorem zd_MPainter_toView_93 : decode zb_MPainter_toView 93 = .ok (.iconst 3, 1) := by decide +kernel
theorem zd_MPainter_toView_94 : decode zb_MPainter_toView 94 = .ok (.iadd, 1) := by decide +kernel
theorem zd_MPainter_toView_95 : decode zb_MPainter_toView 95 = .ok (.lload_n 2, 1) := by decide +kernel
theorem zd_MPainter_toView_96 : decode zb_MPainter_toView 96 = .ok (.lneg, 1) := by decide +kernel
theorem zd_MPainter_toView_97 : decode zb_MPainter_toView 97 = .ok (.invokestatic 111, 3) := by decide +kernel
theorem zd_MPainter_toView_100 : decode zb_MPainter_toView 100 = .ok (.lastore, 1) := by decide +kernel
theorem zd_MPainter_toView_101 : decode zb_MPainter_toView 101 = .ok (.iinc 1 1, 3) := by decide +kernel
theorem zd_MPainter_toView_104 : decode zb_MPainter_toView 104 = .ok (.goto (-90), 3) := by decide +kernel
theorem zd_MPainter_toView_107 : decode zb_MPainter_toView 107 = .ok (.return_, 1) := by decide +kernel
theorem zw_1409 : (Jvm.Cond.fieldLink "OrreryBoxModel$Painter" (155 : Nat) "OrreryBoxModel$Scene" "cameraTurn" "[I") ∈ gw := gw_t 1409 (by decide +kernel) rfl
theorem zw_1405 : (Jvm.Cond.fieldLink "OrreryBoxModel$Painter" (158 : Nat) "OrreryBoxModel$Scene" "cameraMove" "[I") ∈ gw := gw_t 1405 (by decide +kernel) rfl
def L_MPainter_toView_24 (sh : zSh) (fuel : Nat) (v0 : Nat) (v1 : Int32) (v2 : Int64) (v4 : Int32) (mm : zMem) : Option (Nat × Int32 × Int64 × Int32 × zMem) := match fuel with
  | 0 => none
  | fu + 1 => (if 3 ≤ v4 then some (v0, v1, v2, v4, mm) else zoS (sh v0) 13 (fun le13 => Option.bind (mm.2.2 v0 15) (fun a14 => zoS (sh v0) 13 (fun le16 => Option.bind (mm.2.2 v0 18) (fun a17 => zoL ((4 * v4) + v1) (fun i18 => zoS (sh a17) 102 (fun le20 => if (i18 : Int32) < 0 ∨ le20 ≤ (i18 : Int32).toNatClampNeg then none else zoL (mm.2.1 a17 (i18 : Int32).toNatClampNeg) (fun x22 => zoL ((4 * v1) + v4) (fun i23 => zoS (sh a14) 102 (fun le25 => if (i23 : Int32) < 0 ∨ le25 ≤ (i23 : Int32).toNatClampNeg then none else zoL (mL mm a14 (i23 : Int32).toNatClampNeg x22) (fun mm27 => zoS (sh v0) 13 (fun le29 => Option.bind (mm27.2.2 v0 15) (fun a30 => zoL ((4 * v1) + v4) (fun i31 => zoS (sh a30) 102 (fun le33 => if (i31 : Int32) < 0 ∨ le33 ≤ (i31 : Int32).toNatClampNeg then none else zoS (sh v0) 13 (fun le36 => Option.bind (mm27.2.2 v0 5) (fun a37 => zoS (sh a37) 15 (fun le39 => Option.bind (mm27.2.2 a37 31) (fun a40 => zoS (sh a40) 100 (fun le42 => if (v4 : Int32) < 0 ∨ le42 ≤ (v4 : Int32).toNatClampNeg then none else zoL (mm27.2.1 a30 (i31 : Int32).toNatClampNeg) (fun x44 => zoL (((mm27.1 a40 (v4 : Int32).toNatClampNeg) : Int32).toInt64) (fun x45 => zoL (v2 + (sp_MPainter_mul x44 x45)) (fun x47 => L_MPainter_toView_24 sh fu v0 v1 x47 (v4 + 1) mm27)))))))))))))))))))))))
set_option maxHeartbeats 4000000 in
set_option maxRecDepth 100000 in
theorem lp_MPainter_toView_24 {p : Program} {l : Launch} {e : Env} {s : State} {m : MethodId} {args : Array Value} {below : List Frame} {meth : Method} {c : Code} {D : va_G} {tA : Nat → ClassId} {b n : Nat} {post : Option Value → zV → Nat → Prop} {sh : zSh} (F : zF p s m args meth c zb_MPainter_toView 5 "OrreryBoxModel$Painter" D tA b) : ∀ (fuel : Nat) (v0 : Nat) (v1 : Int32) (v2 : Int64) (v4 : Int32) (mm : zMem) (r : Nat × Int32 × Int64 × Int32 × zMem), L_MPainter_toView_24 sh fuel v0 v1 v2 v4 mm = some r → (Z p l e { frames := 7, cells := 0, slots := 0, locals := 166 } s m args below meth c D b 5 (MQ below (zQ D b post) args s 0 0 (fun q => b ≤ q)) (zW tA b sh r.2.2.2.2) n 0 0 86 [(0, .ref (b + (r.1))), (1, .int (r.2.1)), (2, .long (r.2.2.1)), (4, .int (r.2.2.2.1))] []) → Z p l e { frames := 7, cells := 0, slots := 0, locals := 166 } s m args below meth c D b 5 (MQ below (zQ D b post) args s 0 0 (fun q => b ≤ q)) (zW tA b sh mm) n 0 0 24 [(0, .ref (b + v0)), (1, .int v1), (2, .long v2), (4, .int v4)] [] := by
  intro fuel
  induction fuel with
  | zero =>
    intro v0 v1 v2 v4 mm r h
    cases h
  | succ fu ih =>
    intro v0 v1 v2 v4 mm r h hx0
    rw [L_MPainter_toView_24] at h
    refine zr_pcn 24 rfl ?_
    refine zr_iload F zd_MPainter_toView_24 rfl ?_
    refine zr_iconstv (v := 3) F zd_MPainter_toView_26 (by decide) ?_
    refine zr_icmp_ge F 86 zd_MPainter_toView_27 (by decide) (fun hb11 => ?_) (fun hb11 => ?_)
    ·
      rw [if_pos hb11] at h
      obtain rfl := Option.some.inj h
      refine zr_loc (L' := [(0, .ref (b + v0)), (1, .int v1), (2, .long v2), (4, .int v4)]) ⟨rfl, rfl, rfl, rfl, trivial⟩ ?_
      exact hx0 
    ·
      rw [if_neg hb11] at h
      refine zr_aload_n F zd_MPainter_toView_30 rfl ?_
      obtain ⟨le13, hs12, h⟩ := zoS_s h
      obtain ⟨a14, ea14, h⟩ := zoB_s h
      refine zr_get F 13 15 zd_MPainter_toView_31 (zW_o hs12 (by decide)) rfl (by decide) zw_1595 rfl (by rfl) ?_
      refine zr_tor ea14 ?_
      refine zr_iconstv (v := 4) F zd_MPainter_toView_34 (by decide) ?_
      refine zr_iload_n F zd_MPainter_toView_35 rfl ?_
      refine zr_imul F zd_MPainter_toView_36 ?_
      refine zr_pcn 37 rfl ?_
      refine zr_iload F zd_MPainter_toView_37 rfl ?_
      refine zr_iadd F zd_MPainter_toView_39 ?_
      refine zr_aload_n F zd_MPainter_toView_40 rfl ?_
      obtain ⟨le16, hs15, h⟩ := zoS_s h
      obtain ⟨a17, ea17, h⟩ := zoB_s h
      refine zr_get F 13 18 zd_MPainter_toView_41 (zW_o hs15 (by decide)) rfl (by decide) zw_1598 rfl (by rfl) ?_
      refine zr_tor ea17 ?_
      refine zr_iconstv (v := 4) F zd_MPainter_toView_44 (by decide) ?_
      refine zr_iload F zd_MPainter_toView_45 rfl ?_
      refine zr_imul F zd_MPainter_toView_47 ?_
      refine zr_iload_n F zd_MPainter_toView_48 rfl ?_
      refine zr_pcn 49 rfl ?_
      refine zr_iadd F zd_MPainter_toView_49 ?_
      obtain ⟨i18, ei18, h⟩ := zoL_s h
      rw [← ei18]
      obtain ⟨le20, hs19, h⟩ := zoS_s h
      obtain ⟨hi21, h⟩ := zoI_s h
      refine zr_lald F zd_MPainter_toView_50 (zW_a2 hs19) hi21 ?_
      obtain ⟨x22, ex22, h⟩ := zoL_s h
      rw [← ex22]
      obtain ⟨i23, ei23, h⟩ := zoL_s h
      rw [← ei23]
      obtain ⟨le25, hs24, h⟩ := zoS_s h
      obtain ⟨hi26, h⟩ := zoI_s h
      refine zr_last F zd_MPainter_toView_51 (zW_a2 hs24) hi26 ?_
      obtain ⟨mm27, emm27, h⟩ := zoL_s h
      refine zr_norm (zW tA b sh mm27) _ (by rw [emm27]; exact zW_s2 hs24) rfl ?_
      refine zr_lload_n F zd_MPainter_toView_52 rfl ?_
      refine zr_aload_n F zd_MPainter_toView_53 rfl ?_
      obtain ⟨le29, hs28, h⟩ := zoS_s h
      obtain ⟨a30, ea30, h⟩ := zoB_s h
      refine zr_get F 13 15 zd_MPainter_toView_54 (zW_o hs28 (by decide)) rfl (by decide) zw_1595 rfl (by rfl) ?_
      refine zr_tor ea30 ?_
      refine zr_iconstv (v := 4) F zd_MPainter_toView_57 (by decide) ?_
      refine zr_iload_n F zd_MPainter_toView_58 rfl ?_
      refine zr_pcn 59 rfl ?_
      refine zr_imul F zd_MPainter_toView_59 ?_
      refine zr_iload F zd_MPainter_toView_60 rfl ?_
      refine zr_iadd F zd_MPainter_toView_62 ?_
      obtain ⟨i31, ei31, h⟩ := zoL_s h
      rw [← ei31]
      obtain ⟨le33, hs32, h⟩ := zoS_s h
      obtain ⟨hi34, h⟩ := zoI_s h
      refine zr_lald F zd_MPainter_toView_63 (zW_a2 hs32) hi34 ?_
      refine zr_aload_n F zd_MPainter_toView_64 rfl ?_
      obtain ⟨le36, hs35, h⟩ := zoS_s h
      obtain ⟨a37, ea37, h⟩ := zoB_s h
      refine zr_get F 13 5 zd_MPainter_toView_65 (zW_o hs35 (by decide)) rfl (by decide) zw_1581 rfl (by rfl) ?_
      refine zr_tor ea37 ?_
      obtain ⟨le39, hs38, h⟩ := zoS_s h
      obtain ⟨a40, ea40, h⟩ := zoB_s h
      refine zr_get F 15 31 zd_MPainter_toView_68 (zW_o hs38 (by decide)) rfl (by decide) zw_1405 rfl (by rfl) ?_
      refine zr_tor ea40 ?_
      refine zr_iload F zd_MPainter_toView_71 rfl ?_
      refine zr_pcn 73 rfl ?_
      obtain ⟨le42, hs41, h⟩ := zoS_s h
      obtain ⟨hi43, h⟩ := zoI_s h
      refine zr_iald F zd_MPainter_toView_73 (zW_a0 hs41) hi43 ?_
      refine zr_i2l F zd_MPainter_toView_74 ?_
      obtain ⟨x44, ex44, h⟩ := zoL_s h
      rw [← ex44]
      obtain ⟨x45, ex45, h⟩ := zoL_s h
      rw [← ex45]
      refine zr_callS1 F (c_MPainter_mul l D tA b _ _ x44 x45) zd_MPainter_toView_75 zs_MPainter_108 zq_MPainter_mul rfl rfl ⟨(Nat.le_of_ble_eq_true rfl), (Nat.le_of_ble_eq_true rfl)⟩ (Nat.le_of_ble_eq_true rfl) ⟨(Nat.le_of_ble_eq_true rfl), (Nat.le_of_ble_eq_true rfl)⟩ ?_
      refine zr_ladd F zd_MPainter_toView_78 ?_
      obtain ⟨x47, ex47, h⟩ := zoL_s h
      rw [← ex47]
      refine zr_lstore_n F zd_MPainter_toView_79 (by decide) ?_
      refine zr_iinc (v := (v4 + 1)) F zd_MPainter_toView_80 rfl rfl (by decide) ?_
      refine zr_goto F 24 zd_MPainter_toView_83 (by decide) ?_
      refine zr_loc (L' := [(0, .ref (b + v0)), (1, .int v1), (2, .long x47), (4, .int (v4 + 1))]) ⟨rfl, rfl, rfl, rfl, trivial⟩ ?_
      exact ih _ _ _ _ _ _ h hx0
def L_MPainter_toView_14 (sh : zSh) (fuel : Nat) (v0 : Nat) (v1 : Int32) (mm : zMem) : Option (Nat × Int32 × zMem) := match fuel with
  | 0 => none
  | fu + 1 => (if 3 ≤ v1 then some (v0, v1, mm) else Option.bind (L_MPainter_toView_24 sh zfuel v0 v1 0 0 mm) (fun q48 => zoS (sh (q48.1)) 13 (fun le50 => Option.bind ((q48.2.2.2.2).2.2 (q48.1) 15) (fun a51 => zoL (sp_MPainter_bound (-q48.2.2.1)) (fun x53 => zoL ((4 * q48.2.1) + 3) (fun i54 => zoS (sh a51) 102 (fun le56 => if (i54 : Int32) < 0 ∨ le56 ≤ (i54 : Int32).toNatClampNeg then none else zoL (mL (q48.2.2.2.2) a51 (i54 : Int32).toNatClampNeg x53) (fun mm58 => L_MPainter_toView_14 sh fu (q48.1) (q48.2.1 + 1) mm58))))))))
set_option maxHeartbeats 4000000 in
set_option maxRecDepth 100000 in
theorem lp_MPainter_toView_14 {p : Program} {l : Launch} {e : Env} {s : State} {m : MethodId} {args : Array Value} {below : List Frame} {meth : Method} {c : Code} {D : va_G} {tA : Nat → ClassId} {b n : Nat} {post : Option Value → zV → Nat → Prop} {sh : zSh} (F : zF p s m args meth c zb_MPainter_toView 5 "OrreryBoxModel$Painter" D tA b) : ∀ (fuel : Nat) (v0 : Nat) (v1 : Int32) (mm : zMem) (r : Nat × Int32 × zMem), L_MPainter_toView_14 sh fuel v0 v1 mm = some r → (Z p l e { frames := 7, cells := 0, slots := 0, locals := 166 } s m args below meth c D b 5 (MQ below (zQ D b post) args s 0 0 (fun q => b ≤ q)) (zW tA b sh r.2.2) n 0 0 107 [(0, .ref (b + (r.1))), (1, .int (r.2.1))] []) → Z p l e { frames := 7, cells := 0, slots := 0, locals := 166 } s m args below meth c D b 5 (MQ below (zQ D b post) args s 0 0 (fun q => b ≤ q)) (zW tA b sh mm) n 0 0 14 [(0, .ref (b + v0)), (1, .int v1)] [] := by
  intro fuel
  induction fuel with
  | zero =>
    intro v0 v1 mm r h
    cases h
  | succ fu ih =>
    intro v0 v1 mm r h hx0
    rw [L_MPainter_toView_14] at h
    refine zr_iload_n F zd_MPainter_toView_14 rfl ?_
    refine zr_iconstv (v := 3) F zd_MPainter_toView_15 (by decide) ?_
    refine zr_icmp_ge F 107 zd_MPainter_toView_16 (by decide) (fun hb10 => ?_) (fun hb10 => ?_)
    ·
      rw [if_pos hb10] at h
      obtain rfl := Option.some.inj h
      refine zr_loc (L' := [(0, .ref (b + v0)), (1, .int v1)]) ⟨rfl, rfl, trivial⟩ ?_
      exact hx0 
    ·
      rw [if_neg hb10] at h
      refine zr_lconstv (v := 0) F zd_MPainter_toView_19 (by decide) ?_
      refine zr_lstore_n F zd_MPainter_toView_20 (by decide) ?_
      refine zr_iconstv (v := 0) F zd_MPainter_toView_21 (by decide) ?_
      refine zr_istore F zd_MPainter_toView_22 (by decide) ?_
      obtain ⟨q48, eq48, h⟩ := zoB_s h
      refine zr_loc (L' := [(0, .ref (b + v0)), (1, .int v1), (2, .long 0), (4, .int 0)]) ⟨rfl, rfl, rfl, rfl, trivial⟩ ?_
      refine lp_MPainter_toView_24 F _ _ _ _ _ _ _ eq48 ?_
      ·
        refine zr_aload_n F zd_MPainter_toView_86 rfl ?_
        refine zr_pcn 87 rfl ?_
        obtain ⟨le50, hs49, h⟩ := zoS_s h
        obtain ⟨a51, ea51, h⟩ := zoB_s h
        refine zr_get F 13 15 zd_MPainter_toView_87 (zW_o hs49 (by decide)) rfl (by decide) zw_1595 rfl (by rfl) ?_
        refine zr_tor ea51 ?_
        refine zr_iconstv (v := 4) F zd_MPainter_toView_90 (by decide) ?_
        refine zr_iload_n F zd_MPainter_toView_91 rfl ?_
        refine zr_imul F zd_MPainter_toView_92 ?_
        refine zr_iconstv (v := 3) F zd_MPainter_toView_93 (by decide) ?_
        refine zr_iadd F zd_MPainter_toView_94 ?_
        refine zr_lload_n F zd_MPainter_toView_95 rfl ?_
        refine zr_lneg F zd_MPainter_toView_96 ?_
        refine zr_pcn 97 rfl ?_
        refine zr_callS1 F (c_MPainter_bound l D tA b _ _ (-q48.2.2.1)) zd_MPainter_toView_97 zs_MPainter_111 zq_MPainter_bound rfl rfl ⟨(Nat.le_of_ble_eq_true rfl), (Nat.le_of_ble_eq_true rfl)⟩ (Nat.le_of_ble_eq_true rfl) ⟨(Nat.le_of_ble_eq_true rfl), (Nat.le_of_ble_eq_true rfl)⟩ ?_
        obtain ⟨x53, ex53, h⟩ := zoL_s h
        rw [← ex53]
        obtain ⟨i54, ei54, h⟩ := zoL_s h
        rw [← ei54]
        obtain ⟨le56, hs55, h⟩ := zoS_s h
        obtain ⟨hi57, h⟩ := zoI_s h
        refine zr_last F zd_MPainter_toView_100 (zW_a2 hs55) hi57 ?_
        obtain ⟨mm58, emm58, h⟩ := zoL_s h
        refine zr_norm (zW tA b sh mm58) _ (by rw [emm58]; exact zW_s2 hs55) rfl ?_
        refine zr_iinc (v := (q48.2.1 + 1)) F zd_MPainter_toView_101 rfl rfl (by decide) ?_
        refine zr_goto F 14 zd_MPainter_toView_104 (by decide) ?_
        refine zr_loc (L' := [(0, .ref (b + (q48.1))), (1, .int (q48.2.1 + 1))]) ⟨rfl, rfl, trivial⟩ ?_
        exact ih _ _ _ _ h hx0
def F_MPainter_toView (sh : zSh) (mm : zMem) (o : Nat) : Option zMem := zoS (sh o) 13 (fun le2 => Option.bind (mm.2.2 o 5) (fun a3 => zoS (sh a3) 15 (fun le5 => Option.bind (mm.2.2 a3 32) (fun a6 => zoS (sh o) 13 (fun le8 => Option.bind (F_MPainter_toTurn sh mm o a6 0) (fun p9 => Option.bind (L_MPainter_toView_14 sh zfuel o 0 p9) (fun q59 => some (q59.2.2))))))))
set_option maxHeartbeats 4000000 in
set_option maxRecDepth 100000 in
theorem k_MPainter_toView (l : Launch) (D : va_G) (tA : Nat → ClassId) (b : Nat) (sh : zSh) (n : Nat) {mm : zMem} {o : Nat} {r : zMem} (h : F_MPainter_toView sh mm o = some r) : zM l D tA b zy_MPainter_toView zb_MPainter_toView 5 none 7 166 0 0 [.ref (b + o)] (zW tA b sh mm) n (zE none (zW tA b sh r) n) := by
  unfold F_MPainter_toView at h
  refine zM_of (own := "OrreryBoxModel$Painter") (plainFor_of_name (by decide)) rfl (Nat.le_of_ble_eq_true rfl) (fun p e s m below meth c F hr hin hH => ?_)
  refine zr_aload_n F zd_MPainter_toView_0 rfl ?_
  refine zr_aload_n F zd_MPainter_toView_1 rfl ?_
  obtain ⟨le2, hs1, h⟩ := zoS_s h
  obtain ⟨a3, ea3, h⟩ := zoB_s h
  refine zr_get F 13 5 zd_MPainter_toView_2 (zW_o hs1 (by decide)) rfl (by decide) zw_1581 rfl (by rfl) ?_
  refine zr_tor ea3 ?_
  obtain ⟨le5, hs4, h⟩ := zoS_s h
  obtain ⟨a6, ea6, h⟩ := zoB_s h
  refine zr_get F 15 32 zd_MPainter_toView_5 (zW_o hs4 (by decide)) rfl (by decide) zw_1409 rfl (by rfl) ?_
  refine zr_tor ea6 ?_
  refine zr_iconstv (v := 0) F zd_MPainter_toView_8 (by decide) ?_
  obtain ⟨le8, hs7, h⟩ := zoS_s h
  obtain ⟨p9, ep9, h⟩ := zoB_s h
  refine zr_callV0 F (k_MPainter_toTurn l D tA b sh _ ep9) zd_MPainter_toView_9 (zW_o hs7 (by decide)) rfl zs_MPainter_138 rfl zq_MPainter_toTurn rfl rfl ⟨(Nat.le_of_ble_eq_true rfl), (Nat.le_of_ble_eq_true rfl)⟩ (Nat.le_of_ble_eq_true rfl) ⟨(Nat.le_of_ble_eq_true rfl), (Nat.le_of_ble_eq_true rfl)⟩ ?_
  refine zr_iconstv (v := 0) F zd_MPainter_toView_12 (by decide) ?_
  refine zr_pcn 13 rfl ?_
  refine zr_istore_n F zd_MPainter_toView_13 (by decide) ?_
  obtain ⟨q59, eq59, h⟩ := zoB_s h
  refine zr_loc (L' := [(0, .ref (b + o)), (1, .int 0)]) ⟨rfl, rfl, trivial⟩ ?_
  refine lp_MPainter_toView_14 F _ _ _ _ _ eq59 ?_
  ·
    obtain rfl := Option.some.inj h
    exact zr_vret F hr zd_MPainter_toView_107 (Nat.le_of_ble_eq_true rfl) (Nat.le_of_ble_eq_true rfl) ⟨rfl, rfl, rfl⟩
abbrev zb_MPainter_toMatrix : ByteArray := prog_16_method_14_code
def zy_MPainter_toMatrix : MethodName := ⟨"OrreryBoxModel$Painter", "toMatrix", "(I)V"⟩
theorem zc_MPainter_toMatrix : Cond.code zy_MPainter_toMatrix zb_MPainter_toMatrix 3 none ∈ gw := gw_t 2070 (by decide +kernel) rfl
theorem zq_MPainter_toMatrix : zy_MPainter_toMatrix.cls ≠ "java/lang/invoke/MethodHandle" ∧ zy_MPainter_toMatrix.cls ≠ "java/lang/invoke/VarHandle" ∧ (parseMethodDescriptor zy_MPainter_toMatrix.desc).map (fun d => d.parameters.length) = some 1 := by decide +kernel
theorem zd_MPainter_toMatrix_0 : decode zb_MPainter_toMatrix 0 = .ok (.aload_n 0, 1) := by decide +kernel
theorem zd_MPainter_toMatrix_1 : decode zb_MPainter_toMatrix 1 = .ok (.iload_n 1, 1) := by decide +kernel
theorem zd_MPainter_toMatrix_2 : decode zb_MPainter_toMatrix 2 = .ok (.invokevirtual 161, 3) := by decide +kernel
theorem zd_MPainter_toMatrix_5 : decode zb_MPainter_toMatrix 5 = .ok (.aload_n 0, 1) := by decide +kernel
theorem zd_MPainter_toMatrix_6 : decode zb_MPainter_toMatrix 6 = .ok (.invokevirtual 164, 3) := by decide +kernel
theorem zd_MPainter_toMatrix_9 : decode zb_MPainter_toMatrix 9 = .ok (.iconst 0, 1) := by decide +kernel
theorem zd_MPainter_toMatrix_10 : decode zb_MPainter_toMatrix 10 = .ok (.istore_n 2, 1) := by decide +kernel
theorem zd_MPainter_toMatrix_11 : decode zb_MPainter_toMatrix 11 = .ok (.iload_n 2, 1) := by decide +kernel
theorem zd_MPainter_toMatrix_12 : decode zb_MPainter_toMatrix 12 = .ok (.bipush 12, 2) := by decide +kernel
theorem zd_MPainter_toMatrix_14 : decode zb_MPainter_toMatrix 14 = .ok (.if_icmp .ge 21, 3) := by decide +kernel
theorem zd_MPainter_toMatrix_17 : decode zb_MPainter_toMatrix 17 = .ok (.aload_n 0, 1) := by decide +kernel
theorem zd_MPainter_toMatrix_18 : decode zb_MPainter_toMatrix 18 = .ok (.getfield 18, 3) := by decide +kernel
theorem zd_MPainter_toMatrix_21 : decode zb_MPainter_toMatrix 21 = .ok (.iload_n 2, 1) := by decide +kernel
theorem zd_MPainter_toMatrix_22 : decode zb_MPainter_toMatrix 22 = .ok (.aload_n 0, 1) := by decide +kernel
theorem zd_MPainter_toMatrix_23 : decode zb_MPainter_toMatrix 23 = .ok (.getfield 15, 3) := by decide +kernel
theorem zd_MPainter_toMatrix_26 : decode zb_MPainter_toMatrix 26 = .ok (.iload_n 2, 1) := by decide +kernel
theorem zd_MPainter_toMatrix_27 : decode zb_MPainter_toMatrix 27 = .ok (.laload, 1) := by decide +kernel
theorem zd_MPainter_toMatrix_28 : decode zb_MPainter_toMatrix 28 = .ok (.lastore, 1) := by decide +kernel
theorem zd_MPainter_toMatrix_29 : decode zb_MPainter_toMatrix 29 = .ok (.iinc 2 1, 3) := by decide +kernel
theorem zd_MPainter_toMatrix_32 : decode zb_MPainter_toMatrix 32 = .ok (.goto (-21), 3) := by decide +kernel
theorem zd_MPainter_toMatrix_35 : decode zb_MPainter_toMatrix 35 = .ok (.aload_n 0, 1) := by decide +kernel
theorem zd_MPainter_toMatrix_36 : decode zb_MPainter_toMatrix 36 = .ok (.aload_n 0, 1) := by decide +kernel
theorem zd_MPainter_toMatrix_37 : decode zb_MPainter_toMatrix 37 = .ok (.getfield 18, 3) := by decide +kernel
theorem zd_MPainter_toMatrix_40 : decode zb_MPainter_toMatrix 40 = .ok (.aload_n 0, 1) := by decide +kernel
theorem zd_MPainter_toMatrix_41 : decode zb_MPainter_toMatrix 41 = .ok (.getfield 9, 3) := by decide +kernel
theorem zd_MPainter_toMatrix_44 : decode zb_MPainter_toMatrix 44 = .ok (.invokevirtual 125, 3) := by decide +kernel
theorem zd_MPainter_toMatrix_47 : decode zb_MPainter_toMatrix 47 = .ok (.return_, 1) := by decide +kernel
theorem zw_2071 : (Jvm.Cond.methodLink "OrreryBoxModel$Painter" (161 : Nat) ({ cls := "OrreryBoxModel$Painter", name := "toWorld", desc := "(I)V" } : Jvm.MethodName)) ∈ gw := gw_t 2071 (by decide +kernel) rfl
theorem zw_1994 : (Jvm.Cond.instanceMethod ({ cls := "OrreryBoxModel$Painter", name := "toWorld", desc := "(I)V" } : Jvm.MethodName)) ∈ gw := gw_t 1994 (by decide +kernel) rfl
theorem zw_1995 : (Jvm.Cond.selects "OrreryBoxModel$Painter" ({ cls := "OrreryBoxModel$Painter", name := "toWorld", desc := "(I)V" } : Jvm.MethodName) ({ cls := "OrreryBoxModel$Painter", name := "toWorld", desc := "(I)V" } : Jvm.MethodName)) ∈ gw := gw_t 1995 (by decide +kernel) rfl
theorem zs_MPainter_161 : zwV "OrreryBoxModel$Painter" 161 "OrreryBoxModel$Painter" zy_MPainter_toWorld zb_MPainter_toWorld 4 none := ⟨zw_2071, zw_1994, zw_1995, zw_17, zc_MPainter_toWorld⟩
theorem zw_2072 : (Jvm.Cond.methodLink "OrreryBoxModel$Painter" (164 : Nat) ({ cls := "OrreryBoxModel$Painter", name := "toView", desc := "()V" } : Jvm.MethodName)) ∈ gw := gw_t 2072 (by decide +kernel) rfl
theorem zw_2074 : (Jvm.Cond.instanceMethod ({ cls := "OrreryBoxModel$Painter", name := "toView", desc := "()V" } : Jvm.MethodName)) ∈ gw := gw_t 2074 (by decide +kernel) rfl
theorem zv_99 : (Jvm.Cond.selects "OrreryBoxModel$Painter" (⟨"OrreryBoxModel$Painter", "toView", "()V"⟩ : MethodName) ⟨"OrreryBoxModel$Painter", "toView", "()V"⟩) ∈ gw := gw_s 99 (by decide +kernel) rfl
theorem zs_MPainter_164 : zwV "OrreryBoxModel$Painter" 164 "OrreryBoxModel$Painter" zy_MPainter_toView zb_MPainter_toView 5 none := ⟨zw_2072, zw_2074, zv_99, zw_17, zc_MPainter_toView⟩
def L_MPainter_toMatrix_11 (sh : zSh) (fuel : Nat) (v0 : Nat) (v2 : Int32) (mm : zMem) : Option (Nat × Int32 × zMem) := match fuel with
  | 0 => none
  | fu + 1 => (if 12 ≤ v2 then some (v0, v2, mm) else zoS (sh v0) 13 (fun le9 => Option.bind (mm.2.2 v0 16) (fun a10 => zoS (sh v0) 13 (fun le12 => Option.bind (mm.2.2 v0 15) (fun a13 => zoS (sh a13) 102 (fun le15 => if (v2 : Int32) < 0 ∨ le15 ≤ (v2 : Int32).toNatClampNeg then none else zoL (mm.2.1 a13 (v2 : Int32).toNatClampNeg) (fun x17 => zoS (sh a10) 102 (fun le19 => if (v2 : Int32) < 0 ∨ le19 ≤ (v2 : Int32).toNatClampNeg then none else zoL (mL mm a10 (v2 : Int32).toNatClampNeg x17) (fun mm21 => L_MPainter_toMatrix_11 sh fu v0 (v2 + 1) mm21)))))))))
set_option maxHeartbeats 4000000 in
set_option maxRecDepth 100000 in
theorem lp_MPainter_toMatrix_11 {p : Program} {l : Launch} {e : Env} {s : State} {m : MethodId} {args : Array Value} {below : List Frame} {meth : Method} {c : Code} {D : va_G} {tA : Nat → ClassId} {b n : Nat} {post : Option Value → zV → Nat → Prop} {sh : zSh} (F : zF p s m args meth c zb_MPainter_toMatrix 3 "OrreryBoxModel$Painter" D tA b) : ∀ (fuel : Nat) (v0 : Nat) (v2 : Int32) (mm : zMem) (r : Nat × Int32 × zMem), L_MPainter_toMatrix_11 sh fuel v0 v2 mm = some r → (Z p l e { frames := 9, cells := 0, slots := 0, locals := 212 } s m args below meth c D b 3 (MQ below (zQ D b post) args s 0 0 (fun q => b ≤ q)) (zW tA b sh r.2.2) n 0 0 35 [(0, .ref (b + (r.1))), (2, .int (r.2.1))] []) → Z p l e { frames := 9, cells := 0, slots := 0, locals := 212 } s m args below meth c D b 3 (MQ below (zQ D b post) args s 0 0 (fun q => b ≤ q)) (zW tA b sh mm) n 0 0 11 [(0, .ref (b + v0)), (2, .int v2)] [] := by
  intro fuel
  induction fuel with
  | zero =>
    intro v0 v2 mm r h
    cases h
  | succ fu ih =>
    intro v0 v2 mm r h hx0
    rw [L_MPainter_toMatrix_11] at h
    refine zr_pcn 11 rfl ?_
    refine zr_iload_n F zd_MPainter_toMatrix_11 rfl ?_
    refine zr_bipushv (v := 12) F zd_MPainter_toMatrix_12 (by decide) ?_
    refine zr_icmp_ge F 35 zd_MPainter_toMatrix_14 (by decide) (fun hb7 => ?_) (fun hb7 => ?_)
    ·
      rw [if_pos hb7] at h
      obtain rfl := Option.some.inj h
      refine zr_loc (L' := [(0, .ref (b + v0)), (2, .int v2)]) ⟨rfl, rfl, trivial⟩ ?_
      exact hx0 
    ·
      rw [if_neg hb7] at h
      refine zr_aload_n F zd_MPainter_toMatrix_17 rfl ?_
      obtain ⟨le9, hs8, h⟩ := zoS_s h
      obtain ⟨a10, ea10, h⟩ := zoB_s h
      refine zr_get F 13 16 zd_MPainter_toMatrix_18 (zW_o hs8 (by decide)) rfl (by decide) zw_1596 rfl (by rfl) ?_
      refine zr_tor ea10 ?_
      refine zr_iload_n F zd_MPainter_toMatrix_21 rfl ?_
      refine zr_aload_n F zd_MPainter_toMatrix_22 rfl ?_
      obtain ⟨le12, hs11, h⟩ := zoS_s h
      obtain ⟨a13, ea13, h⟩ := zoB_s h
      refine zr_get F 13 15 zd_MPainter_toMatrix_23 (zW_o hs11 (by decide)) rfl (by decide) zw_1595 rfl (by rfl) ?_
      refine zr_tor ea13 ?_
      refine zr_pcn 26 rfl ?_
      refine zr_iload_n F zd_MPainter_toMatrix_26 rfl ?_
      obtain ⟨le15, hs14, h⟩ := zoS_s h
      obtain ⟨hi16, h⟩ := zoI_s h
      refine zr_lald F zd_MPainter_toMatrix_27 (zW_a2 hs14) hi16 ?_
      obtain ⟨x17, ex17, h⟩ := zoL_s h
      rw [← ex17]
      obtain ⟨le19, hs18, h⟩ := zoS_s h
      obtain ⟨hi20, h⟩ := zoI_s h
      refine zr_last F zd_MPainter_toMatrix_28 (zW_a2 hs18) hi20 ?_
      obtain ⟨mm21, emm21, h⟩ := zoL_s h
      refine zr_norm (zW tA b sh mm21) _ (by rw [emm21]; exact zW_s2 hs18) rfl ?_
      refine zr_iinc (v := (v2 + 1)) F zd_MPainter_toMatrix_29 rfl rfl (by decide) ?_
      refine zr_goto F 11 zd_MPainter_toMatrix_32 (by decide) ?_
      refine zr_loc (L' := [(0, .ref (b + v0)), (2, .int (v2 + 1))]) ⟨rfl, rfl, trivial⟩ ?_
      exact ih _ _ _ _ h hx0
def F_MPainter_toMatrix (sh : zSh) (mm : zMem) (o : Nat) (x0_ : Int32) : Option zMem := zoS (sh o) 13 (fun le2 => Option.bind (F_MPainter_toWorld sh mm o x0_) (fun p3 => zoS (sh o) 13 (fun le5 => Option.bind (F_MPainter_toView sh p3 o) (fun p6 => Option.bind (L_MPainter_toMatrix_11 sh zfuel o 0 p6) (fun q22 => zoS (sh (q22.1)) 13 (fun le24 => Option.bind ((q22.2.2).2.2 (q22.1) 16) (fun a25 => zoS (sh (q22.1)) 13 (fun le27 => Option.bind ((q22.2.2).2.2 (q22.1) 14) (fun a28 => zoS (sh (q22.1)) 13 (fun le30 => Option.bind (F_MPainter_times sh (q22.2.2) (q22.1) a25 a28) (fun p31 => some p31)))))))))))
set_option maxHeartbeats 4000000 in
set_option maxRecDepth 100000 in
theorem k_MPainter_toMatrix (l : Launch) (D : va_G) (tA : Nat → ClassId) (b : Nat) (sh : zSh) (n : Nat) {mm : zMem} {o : Nat} {x0_ : Int32} {r : zMem} (h : F_MPainter_toMatrix sh mm o x0_ = some r) : zM l D tA b zy_MPainter_toMatrix zb_MPainter_toMatrix 3 none 9 212 0 0 [.ref (b + o), .int x0_] (zW tA b sh mm) n (zE none (zW tA b sh r) n) := by
  unfold F_MPainter_toMatrix at h
  refine zM_of (own := "OrreryBoxModel$Painter") (plainFor_of_name (by decide)) rfl (Nat.le_of_ble_eq_true rfl) (fun p e s m below meth c F hr hin hH => ?_)
  refine zr_aload_n F zd_MPainter_toMatrix_0 rfl ?_
  refine zr_iload_n F zd_MPainter_toMatrix_1 rfl ?_
  obtain ⟨le2, hs1, h⟩ := zoS_s h
  obtain ⟨p3, ep3, h⟩ := zoB_s h
  refine zr_callV0 F (k_MPainter_toWorld l D tA b sh _ ep3) zd_MPainter_toMatrix_2 (zW_o hs1 (by decide)) rfl zs_MPainter_161 rfl zq_MPainter_toWorld rfl rfl ⟨(Nat.le_of_ble_eq_true rfl), (Nat.le_of_ble_eq_true rfl)⟩ (Nat.le_of_ble_eq_true rfl) ⟨(Nat.le_of_ble_eq_true rfl), (Nat.le_of_ble_eq_true rfl)⟩ ?_
  refine zr_aload_n F zd_MPainter_toMatrix_5 rfl ?_
  obtain ⟨le5, hs4, h⟩ := zoS_s h
  obtain ⟨p6, ep6, h⟩ := zoB_s h
  refine zr_callV0 F (k_MPainter_toView l D tA b sh _ ep6) zd_MPainter_toMatrix_6 (zW_o hs4 (by decide)) rfl zs_MPainter_164 rfl zq_MPainter_toView rfl rfl ⟨(Nat.le_of_ble_eq_true rfl), (Nat.le_of_ble_eq_true rfl)⟩ (Nat.le_of_ble_eq_true rfl) ⟨(Nat.le_of_ble_eq_true rfl), (Nat.le_of_ble_eq_true rfl)⟩ ?_
  refine zr_iconstv (v := 0) F zd_MPainter_toMatrix_9 (by decide) ?_
  refine zr_istore_n F zd_MPainter_toMatrix_10 (by decide) ?_
  obtain ⟨q22, eq22, h⟩ := zoB_s h
  refine zr_loc (L' := [(0, .ref (b + o)), (2, .int 0)]) ⟨rfl, rfl, trivial⟩ ?_
  refine lp_MPainter_toMatrix_11 F _ _ _ _ _ eq22 ?_
  ·
    refine zr_aload_n F zd_MPainter_toMatrix_35 rfl ?_
    refine zr_aload_n F zd_MPainter_toMatrix_36 rfl ?_
    obtain ⟨le24, hs23, h⟩ := zoS_s h
    obtain ⟨a25, ea25, h⟩ := zoB_s h
    refine zr_get F 13 16 zd_MPainter_toMatrix_37 (zW_o hs23 (by decide)) rfl (by decide) zw_1596 rfl (by rfl) ?_
    refine zr_tor ea25 ?_
    refine zr_pcn 40 rfl ?_
    refine zr_aload_n F zd_MPainter_toMatrix_40 rfl ?_
    obtain ⟨le27, hs26, h⟩ := zoS_s h
    obtain ⟨a28, ea28, h⟩ := zoB_s h
    refine zr_get F 13 14 zd_MPainter_toMatrix_41 (zW_o hs26 (by decide)) rfl (by decide) zw_1593 rfl (by rfl) ?_
    refine zr_tor ea28 ?_
    obtain ⟨le30, hs29, h⟩ := zoS_s h
    obtain ⟨p31, ep31, h⟩ := zoB_s h
    refine zr_callV0 F (k_MPainter_times l D tA b sh _ ep31) zd_MPainter_toMatrix_44 (zW_o hs29 (by decide)) rfl zs_MPainter_125 rfl zq_MPainter_times rfl rfl ⟨(Nat.le_of_ble_eq_true rfl), (Nat.le_of_ble_eq_true rfl)⟩ (Nat.le_of_ble_eq_true rfl) ⟨(Nat.le_of_ble_eq_true rfl), (Nat.le_of_ble_eq_true rfl)⟩ ?_
    obtain rfl := Option.some.inj h
    exact zr_vret F hr zd_MPainter_toMatrix_47 (Nat.le_of_ble_eq_true rfl) (Nat.le_of_ble_eq_true rfl) ⟨rfl, rfl, rfl⟩
abbrev zb_MPainter_applied : ByteArray := prog_16_method_15_code
def zy_MPainter_applied : MethodName := ⟨"OrreryBoxModel$Painter", "applied", "([JI[IIZ)J"⟩
theorem zc_MPainter_applied : Cond.code zy_MPainter_applied zb_MPainter_applied 7 (some .long) ∈ gw := gw_t 2098 (by decide +kernel) rfl
theorem zq_MPainter_applied : zy_MPainter_applied.cls ≠ "java/lang/invoke/MethodHandle" ∧ zy_MPainter_applied.cls ≠ "java/lang/invoke/VarHandle" ∧ (parseMethodDescriptor zy_MPainter_applied.desc).map (fun d => d.parameters.length) = some 5 := by decide +kernel
theorem zd_MPainter_applied_0 : decode zb_MPainter_applied 0 = .ok (.aload_n 0, 1) := by decide +kernel
theorem zd_MPainter_applied_1 : decode zb_MPainter_applied 1 = .ok (.iconst 4, 1) := by decide +kernel
theorem zd_MPainter_applied_2 : decode zb_MPainter_applied 2 = .ok (.iload_n 1, 1) := by decide +kernel
theorem zd_MPainter_applied_3 : decode zb_MPainter_applied 3 = .ok (.imul, 1) := by decide +kernel
theorem zd_MPainter_applied_4 : decode zb_MPainter_applied 4 = .ok (.laload, 1) := by decide +kernel
theorem zd_MPainter_applied_5 : decode zb_MPainter_applied 5 = .ok (.aload_n 2, 1) := by decide +kernel
theorem zd_MPainter_applied_6 : decode zb_MPainter_applied 6 = .ok (.iload_n 3, 1) := by decide +kernel
theorem zd_MPainter_applied_7 : decode zb_MPainter_applied 7 = .ok (.iaload, 1) := by decide +kernel
theorem zd_MPainter_applied_8 : decode zb_MPainter_applied 8 = .ok (.i2l, 1) := by decide +kernel
theorem zd_MPainter_applied_9 : decode zb_MPainter_applied 9 = .ok (.invokestatic 108, 3) := by decide +kernel
theorem zd_MPainter_applied_12 : decode zb_MPainter_applied 12 = .ok (.aload_n 0, 1) := by decide +kernel
theorem zd_MPainter_applied_13 : decode zb_MPainter_applied 13 = .ok (.iconst 4, 1) := by decide +kernel
theorem zd_MPainter_applied_14 : decode zb_MPainter_applied 14 = .ok (.iload_n 1, 1) := by decide +kernel
theorem zd_MPainter_applied_15 : decode zb_MPainter_applied 15 = .ok (.imul, 1) := by decide +kernel
theorem zd_MPainter_applied_16 : decode zb_MPainter_applied 16 = .ok (.iconst 1, 1) := by decide +kernel
theorem zd_MPainter_applied_17 : decode zb_MPainter_applied 17 = .ok (.iadd, 1) := by decide +kernel
theorem zd_MPainter_applied_18 : decode zb_MPainter_applied 18 = .ok (.laload, 1) := by decide +kernel
theorem zd_MPainter_applied_19 : decode zb_MPainter_applied 19 = .ok (.aload_n 2, 1) := by decide +kernel
theorem zd_MPainter_applied_20 : decode zb_MPainter_applied 20 = .ok (.iload_n 3, 1) := by decide +kernel
theorem zd_MPainter_applied_21 : decode zb_MPainter_applied 21 = .ok (.iconst 1, 1) := by decide +kernel
theorem zd_MPainter_applied_22 : decode zb_MPainter_applied 22 = .ok (.iadd, 1) := by decide +kernel
theorem zd_MPainter_applied_23 : decode zb_MPainter_applied 23 = .ok (.iaload, 1) := by decide +kernel
theorem zd_MPainter_applied_24 : decode zb_MPainter_applied 24 = .ok (.i2l, 1) := by decide +kernel
theorem zd_MPainter_applied_25 : decode zb_MPainter_applied 25 = .ok (.invokestatic 108, 3) := by decide +kernel
theorem zd_MPainter_applied_28 : decode zb_MPainter_applied 28 = .ok (.ladd, 1) := by decide +kernel
theorem zd_MPainter_applied_29 : decode zb_MPainter_applied 29 = .ok (.aload_n 0, 1) := by decide +kernel
theorem zd_MPainter_applied_30 : decode zb_MPainter_applied 30 = .ok (.iconst 4, 1) := by decide +kernel
theorem zd_MPainter_applied_31 : decode zb_MPainter_applied 31 = .ok (.iload_n 1, 1) := by decide +kernel
theorem zd_MPainter_applied_32 : decode zb_MPainter_applied 32 = .ok (.imul, 1) := by decide +kernel
theorem zd_MPainter_applied_33 : decode zb_MPainter_applied 33 = .ok (.iconst 2, 1) := by decide +kernel
theorem zd_MPainter_applied_34 : decode zb_MPainter_applied 34 = .ok (.iadd, 1) := by decide +kernel
theorem zd_MPainter_applied_35 : decode zb_MPainter_applied 35 = .ok (.laload, 1) := by decide +kernel
theorem zd_MPainter_applied_36 : decode zb_MPainter_applied 36 = .ok (.aload_n 2, 1) := by decide +kernel
theorem zd_MPainter_applied_37 : decode zb_MPainter_applied 37 = .ok (.iload_n 3, 1) := by decide +kernel
theorem zd_MPainter_applied_38 : decode zb_MPainter_applied 38 = .ok (.iconst 2, 1) := by decide +kernel
theorem zd_MPainter_applied_39 : decode zb_MPainter_applied 39 = .ok (.iadd, 1) := by decide +kernel
theorem zd_MPainter_applied_40 : decode zb_MPainter_applied 40 = .ok (.iaload, 1) := by decide +kernel
theorem zd_MPainter_applied_41 : decode zb_MPainter_applied 41 = .ok (.i2l, 1) := by decide +kernel
theorem zd_MPainter_applied_42 : decode zb_MPainter_applied 42 = .ok (.invokestatic 108, 3) := by decide +kernel
theorem zd_MPainter_applied_45 : decode zb_MPainter_applied 45 = .ok (.ladd, 1) := by decide +kernel
theorem zd_MPainter_applied_46 : decode zb_MPainter_applied 46 = .ok (.lstore 5, 2) := by decide +kernel
theorem zd_MPainter_applied_48 : decode zb_MPainter_applied 48 = .ok (.lload 5, 2) := by decide +kernel
theorem zd_MPainter_applied_50 : decode zb_MPainter_applied 50 = .ok (.iload 4, 2) := by decide +kernel
theorem zd_MPainter_applied_52 : decode zb_MPainter_applied 52 = .ok (.ifCond .eq 13, 3) := by decide +kernel
theorem zd_MPainter_applied_55 : decode zb_MPainter_applied 55 = .ok (.aload_n 0, 1) := by decide +kernel
theorem zd_MPainter_applied_56 : decode zb_MPainter_applied 56 = .ok (.iconst 4, 1) := by decide +kernel
theorem zd_MPainter_applied_57 : decode zb_MPainter_applied 57 = .ok (.iload_n 1, 1) := by decide +kernel
theorem zd_MPainter_applied_58 : decode zb_MPainter_applied 58 = .ok (.imul, 1) := by decide +kernel
theorem zd_MPainter_applied_59 : decode zb_MPainter_applied 59 = .ok (.iconst 3, 1) := by decide +kernel
theorem zd_MPainter_applied_60 : decode zb_MPainter_applied 60 = .ok (.iadd, 1) := by decide +kernel
theorem zd_MPainter_applied_61 : decode zb_MPainter_applied 61 = .ok (.laload, 1) := by decide +kernel
theorem zd_MPainter_applied_62 : decode zb_MPainter_applied 62 = .ok (.goto 4, 3) := by decide +kernel
theorem zd_MPainter_applied_65 : decode zb_MPainter_applied 65 = .ok (.lconst 0, 1) := by decide +kernel
theorem zd_MPainter_applied_66 : decode zb_MPainter_applied 66 = .ok (.ladd, 1) := by decide +kernel
theorem zd_MPainter_applied_67 : decode zb_MPainter_applied 67 = .ok (.invokestatic 111, 3) := by decide +kernel
theorem zd_MPainter_applied_70 : decode zb_MPainter_applied 70 = .ok (.lreturn, 1) := by decide +kernel
def F_MPainter_applied (sh : zSh) (mm : zMem) (x0_ : Nat) (x1_ : Int32) (x2_ : Nat) (x3_ : Int32) (x4_ : Int32) : Option (Int64 × zMem) := zoL (4 * x1_) (fun i1 => zoS (sh x0_) 102 (fun le3 => if (i1 : Int32) < 0 ∨ le3 ≤ (i1 : Int32).toNatClampNeg then none else zoS (sh x2_) 100 (fun le6 => if (x3_ : Int32) < 0 ∨ le6 ≤ (x3_ : Int32).toNatClampNeg then none else zoL (mm.2.1 x0_ (i1 : Int32).toNatClampNeg) (fun x8 => zoL (((mm.1 x2_ (x3_ : Int32).toNatClampNeg) : Int32).toInt64) (fun x9 => zoL ((4 * x1_) + 1) (fun i11 => zoS (sh x0_) 102 (fun le13 => if (i11 : Int32) < 0 ∨ le13 ≤ (i11 : Int32).toNatClampNeg then none else zoL (x3_ + 1) (fun i15 => zoS (sh x2_) 100 (fun le17 => if (i15 : Int32) < 0 ∨ le17 ≤ (i15 : Int32).toNatClampNeg then none else zoL (mm.2.1 x0_ (i11 : Int32).toNatClampNeg) (fun x19 => zoL (((mm.1 x2_ (i15 : Int32).toNatClampNeg) : Int32).toInt64) (fun x20 => zoL ((4 * x1_) + 2) (fun i22 => zoS (sh x0_) 102 (fun le24 => if (i22 : Int32) < 0 ∨ le24 ≤ (i22 : Int32).toNatClampNeg then none else zoL (x3_ + 2) (fun i26 => zoS (sh x2_) 100 (fun le28 => if (i26 : Int32) < 0 ∨ le28 ≤ (i26 : Int32).toNatClampNeg then none else zoL (mm.2.1 x0_ (i22 : Int32).toNatClampNeg) (fun x30 => zoL (((mm.1 x2_ (i26 : Int32).toNatClampNeg) : Int32).toInt64) (fun x31 => zoL (((sp_MPainter_mul x8 x9) + (sp_MPainter_mul x19 x20)) + (sp_MPainter_mul x30 x31)) (fun x33 => (if x4_ = 0 then some ((sp_MPainter_bound (x33 + 0)), mm) else zoL ((4 * x1_) + 3) (fun i36 => zoS (sh x0_) 102 (fun le38 => if (i36 : Int32) < 0 ∨ le38 ≤ (i36 : Int32).toNatClampNeg then none else zoL (x33 + (mm.2.1 x0_ (i36 : Int32).toNatClampNeg)) (fun x40 => some ((sp_MPainter_bound x40), mm)))))))))))))))))))))))
set_option maxHeartbeats 4000000 in
set_option maxRecDepth 100000 in
theorem k_MPainter_applied (l : Launch) (D : va_G) (tA : Nat → ClassId) (b : Nat) (sh : zSh) (n : Nat) {mm : zMem} {x0_ : Nat} {x1_ : Int32} {x2_ : Nat} {x3_ : Int32} {x4_ : Int32} {r : (Int64 × zMem)} (h : F_MPainter_applied sh mm x0_ x1_ x2_ x3_ x4_ = some r) : zM l D tA b zy_MPainter_applied zb_MPainter_applied 7 (some .long) 2 48 0 0 [.ref (b + x0_), .int x1_, .ref (b + x2_), .int x3_, .int x4_] (zW tA b sh mm) n (zE (some (.long (r.1))) (zW tA b sh r.2) n) := by
  unfold F_MPainter_applied at h
  refine zM_of (own := "OrreryBoxModel$Painter") (plainFor_of_name (by decide)) rfl (Nat.le_of_ble_eq_true rfl) (fun p e s m below meth c F hr hin hH => ?_)
  refine zr_aload_n F zd_MPainter_applied_0 rfl ?_
  refine zr_iconstv (v := 4) F zd_MPainter_applied_1 (by decide) ?_
  refine zr_iload_n F zd_MPainter_applied_2 rfl ?_
  refine zr_imul F zd_MPainter_applied_3 ?_
  obtain ⟨i1, ei1, h⟩ := zoL_s h
  rw [← ei1]
  obtain ⟨le3, hs2, h⟩ := zoS_s h
  obtain ⟨hi4, h⟩ := zoI_s h
  refine zr_lald F zd_MPainter_applied_4 (zW_a2 hs2) hi4 ?_
  refine zr_aload_n F zd_MPainter_applied_5 rfl ?_
  refine zr_iload_n F zd_MPainter_applied_6 rfl ?_
  refine zr_pcn 7 rfl ?_
  obtain ⟨le6, hs5, h⟩ := zoS_s h
  obtain ⟨hi7, h⟩ := zoI_s h
  refine zr_iald F zd_MPainter_applied_7 (zW_a0 hs5) hi7 ?_
  refine zr_i2l F zd_MPainter_applied_8 ?_
  obtain ⟨x8, ex8, h⟩ := zoL_s h
  rw [← ex8]
  obtain ⟨x9, ex9, h⟩ := zoL_s h
  rw [← ex9]
  refine zr_callS1 F (c_MPainter_mul l D tA b _ _ x8 x9) zd_MPainter_applied_9 zs_MPainter_108 zq_MPainter_mul rfl rfl ⟨(Nat.le_of_ble_eq_true rfl), (Nat.le_of_ble_eq_true rfl)⟩ (Nat.le_of_ble_eq_true rfl) ⟨(Nat.le_of_ble_eq_true rfl), (Nat.le_of_ble_eq_true rfl)⟩ ?_
  refine zr_aload_n F zd_MPainter_applied_12 rfl ?_
  refine zr_iconstv (v := 4) F zd_MPainter_applied_13 (by decide) ?_
  refine zr_iload_n F zd_MPainter_applied_14 rfl ?_
  refine zr_imul F zd_MPainter_applied_15 ?_
  refine zr_iconstv (v := 1) F zd_MPainter_applied_16 (by decide) ?_
  refine zr_pcn 17 rfl ?_
  refine zr_iadd F zd_MPainter_applied_17 ?_
  obtain ⟨i11, ei11, h⟩ := zoL_s h
  rw [← ei11]
  obtain ⟨le13, hs12, h⟩ := zoS_s h
  obtain ⟨hi14, h⟩ := zoI_s h
  refine zr_lald F zd_MPainter_applied_18 (zW_a2 hs12) hi14 ?_
  refine zr_aload_n F zd_MPainter_applied_19 rfl ?_
  refine zr_iload_n F zd_MPainter_applied_20 rfl ?_
  refine zr_iconstv (v := 1) F zd_MPainter_applied_21 (by decide) ?_
  refine zr_iadd F zd_MPainter_applied_22 ?_
  obtain ⟨i15, ei15, h⟩ := zoL_s h
  rw [← ei15]
  obtain ⟨le17, hs16, h⟩ := zoS_s h
  obtain ⟨hi18, h⟩ := zoI_s h
  refine zr_iald F zd_MPainter_applied_23 (zW_a0 hs16) hi18 ?_
  refine zr_i2l F zd_MPainter_applied_24 ?_
  refine zr_pcn 25 rfl ?_
  obtain ⟨x19, ex19, h⟩ := zoL_s h
  rw [← ex19]
  obtain ⟨x20, ex20, h⟩ := zoL_s h
  rw [← ex20]
  refine zr_callS1 F (c_MPainter_mul l D tA b _ _ x19 x20) zd_MPainter_applied_25 zs_MPainter_108 zq_MPainter_mul rfl rfl ⟨(Nat.le_of_ble_eq_true rfl), (Nat.le_of_ble_eq_true rfl)⟩ (Nat.le_of_ble_eq_true rfl) ⟨(Nat.le_of_ble_eq_true rfl), (Nat.le_of_ble_eq_true rfl)⟩ ?_
  refine zr_ladd F zd_MPainter_applied_28 ?_
  refine zr_aload_n F zd_MPainter_applied_29 rfl ?_
  refine zr_iconstv (v := 4) F zd_MPainter_applied_30 (by decide) ?_
  refine zr_iload_n F zd_MPainter_applied_31 rfl ?_
  refine zr_imul F zd_MPainter_applied_32 ?_
  refine zr_iconstv (v := 2) F zd_MPainter_applied_33 (by decide) ?_
  refine zr_iadd F zd_MPainter_applied_34 ?_
  refine zr_pcn 35 rfl ?_
  obtain ⟨i22, ei22, h⟩ := zoL_s h
  rw [← ei22]
  obtain ⟨le24, hs23, h⟩ := zoS_s h
  obtain ⟨hi25, h⟩ := zoI_s h
  refine zr_lald F zd_MPainter_applied_35 (zW_a2 hs23) hi25 ?_
  refine zr_aload_n F zd_MPainter_applied_36 rfl ?_
  refine zr_iload_n F zd_MPainter_applied_37 rfl ?_
  refine zr_iconstv (v := 2) F zd_MPainter_applied_38 (by decide) ?_
  refine zr_iadd F zd_MPainter_applied_39 ?_
  obtain ⟨i26, ei26, h⟩ := zoL_s h
  rw [← ei26]
  obtain ⟨le28, hs27, h⟩ := zoS_s h
  obtain ⟨hi29, h⟩ := zoI_s h
  refine zr_iald F zd_MPainter_applied_40 (zW_a0 hs27) hi29 ?_
  refine zr_i2l F zd_MPainter_applied_41 ?_
  obtain ⟨x30, ex30, h⟩ := zoL_s h
  rw [← ex30]
  obtain ⟨x31, ex31, h⟩ := zoL_s h
  rw [← ex31]
  refine zr_callS1 F (c_MPainter_mul l D tA b _ _ x30 x31) zd_MPainter_applied_42 zs_MPainter_108 zq_MPainter_mul rfl rfl ⟨(Nat.le_of_ble_eq_true rfl), (Nat.le_of_ble_eq_true rfl)⟩ (Nat.le_of_ble_eq_true rfl) ⟨(Nat.le_of_ble_eq_true rfl), (Nat.le_of_ble_eq_true rfl)⟩ ?_
  refine zr_pcn 45 rfl ?_
  refine zr_ladd F zd_MPainter_applied_45 ?_
  obtain ⟨x33, ex33, h⟩ := zoL_s h
  rw [← ex33]
  refine zr_lstore F zd_MPainter_applied_46 (by decide) ?_
  refine zr_lload F zd_MPainter_applied_48 rfl ?_
  refine zr_iload F zd_MPainter_applied_50 rfl ?_
  refine zr_if_eq F 65 zd_MPainter_applied_52 (by decide) (fun hb34 => ?_) (fun hb34 => ?_)
  ·
    rw [if_pos hb34] at h
    refine zr_lconstv (v := 0) F zd_MPainter_applied_65 (by decide) ?_
    refine zr_ladd F zd_MPainter_applied_66 ?_
    refine zr_callS1 F (c_MPainter_bound l D tA b _ _ (x33 + 0)) zd_MPainter_applied_67 zs_MPainter_111 zq_MPainter_bound rfl rfl ⟨(Nat.le_of_ble_eq_true rfl), (Nat.le_of_ble_eq_true rfl)⟩ (Nat.le_of_ble_eq_true rfl) ⟨(Nat.le_of_ble_eq_true rfl), (Nat.le_of_ble_eq_true rfl)⟩ ?_
    refine zr_pcn 70 rfl ?_
    obtain rfl := Option.some.inj h
    exact zr_lret F hr zd_MPainter_applied_70 (Nat.le_of_ble_eq_true rfl) (Nat.le_of_ble_eq_true rfl) ⟨rfl, rfl, rfl⟩
  ·
    rw [if_neg hb34] at h
    refine zr_aload_n F zd_MPainter_applied_55 rfl ?_
    refine zr_iconstv (v := 4) F zd_MPainter_applied_56 (by decide) ?_
    refine zr_iload_n F zd_MPainter_applied_57 rfl ?_
    refine zr_imul F zd_MPainter_applied_58 ?_
    refine zr_iconstv (v := 3) F zd_MPainter_applied_59 (by decide) ?_
    refine zr_iadd F zd_MPainter_applied_60 ?_
    obtain ⟨i36, ei36, h⟩ := zoL_s h
    rw [← ei36]
    obtain ⟨le38, hs37, h⟩ := zoS_s h
    obtain ⟨hi39, h⟩ := zoI_s h
    refine zr_lald F zd_MPainter_applied_61 (zW_a2 hs37) hi39 ?_
    refine zr_pcn 62 rfl ?_
    refine zr_goto F 66 zd_MPainter_applied_62 (by decide) ?_
    refine zr_ladd F zd_MPainter_applied_66 ?_
    obtain ⟨x40, ex40, h⟩ := zoL_s h
    rw [← ex40]
    refine zr_callS1 F (c_MPainter_bound l D tA b _ _ x40) zd_MPainter_applied_67 zs_MPainter_111 zq_MPainter_bound rfl rfl ⟨(Nat.le_of_ble_eq_true rfl), (Nat.le_of_ble_eq_true rfl)⟩ (Nat.le_of_ble_eq_true rfl) ⟨(Nat.le_of_ble_eq_true rfl), (Nat.le_of_ble_eq_true rfl)⟩ ?_
    obtain rfl := Option.some.inj h
    exact zr_lret F hr zd_MPainter_applied_70 (Nat.le_of_ble_eq_true rfl) (Nat.le_of_ble_eq_true rfl) ⟨rfl, rfl, rfl⟩
abbrev zb_MPainter_seen : ByteArray := prog_16_method_16_code
def zy_MPainter_seen : MethodName := ⟨"OrreryBoxModel$Painter", "seen", "(I)Z"⟩
theorem zc_MPainter_seen : Cond.code zy_MPainter_seen zb_MPainter_seen 3 (some .boolean) ∈ gw := gw_t 2066 (by decide +kernel) rfl
theorem zq_MPainter_seen : zy_MPainter_seen.cls ≠ "java/lang/invoke/MethodHandle" ∧ zy_MPainter_seen.cls ≠ "java/lang/invoke/VarHandle" ∧ (parseMethodDescriptor zy_MPainter_seen.desc).map (fun d => d.parameters.length) = some 1 := by decide +kernel
theorem zd_MPainter_seen_0 : decode zb_MPainter_seen 0 = .ok (.aload_n 0, 1) := by decide +kernel
theorem zd_MPainter_seen_1 : decode zb_MPainter_seen 1 = .ok (.getfield 129, 3) := by decide +kernel
theorem zd_MPainter_seen_4 : decode zb_MPainter_seen 4 = .ok (.getfield 167, 3) := by decide +kernel
theorem zd_MPainter_seen_7 : decode zb_MPainter_seen 7 = .ok (.iload_n 1, 1) := by decide +kernel
theorem zd_MPainter_seen_8 : decode zb_MPainter_seen 8 = .ok (.iaload, 1) := by decide +kernel
theorem zd_MPainter_seen_9 : decode zb_MPainter_seen 9 = .ok (.ifCond .ge 5, 3) := by decide +kernel
theorem zd_MPainter_seen_12 : decode zb_MPainter_seen 12 = .ok (.iconst 0, 1) := by decide +kernel
theorem zd_MPainter_seen_13 : decode zb_MPainter_seen 13 = .ok (.ireturn, 1) := by decide +kernel
theorem zd_MPainter_seen_14 : decode zb_MPainter_seen 14 = .ok (.iload_n 1, 1) := by decide +kernel
theorem zd_MPainter_seen_15 : decode zb_MPainter_seen 15 = .ok (.istore_n 2, 1) := by decide +kernel
theorem zd_MPainter_seen_16 : decode zb_MPainter_seen 16 = .ok (.iload_n 2, 1) := by decide +kernel
theorem zd_MPainter_seen_17 : decode zb_MPainter_seen 17 = .ok (.ifCond .lt 30, 3) := by decide +kernel
theorem zd_MPainter_seen_20 : decode zb_MPainter_seen 20 = .ok (.aload_n 0, 1) := by decide +kernel
theorem zd_MPainter_seen_21 : decode zb_MPainter_seen 21 = .ok (.getfield 129, 3) := by decide +kernel
theorem zd_MPainter_seen_24 : decode zb_MPainter_seen 24 = .ok (.getfield 170, 3) := by decide +kernel
theorem zd_MPainter_seen_27 : decode zb_MPainter_seen 27 = .ok (.iload_n 2, 1) := by decide +kernel
theorem zd_MPainter_seen_28 : decode zb_MPainter_seen 28 = .ok (.baload, 1) := by decide +kernel
theorem zd_MPainter_seen_29 : decode zb_MPainter_seen 29 = .ok (.ifCond .eq 5, 3) := by decide +kernel
theorem zd_MPainter_seen_32 : decode zb_MPainter_seen 32 = .ok (.iconst 0, 1) := by decide +kernel
theorem zd_MPainter_seen_33 : decode zb_MPainter_seen 33 = .ok (.ireturn, 1) := by decide +kernel
theorem zd_MPainter_seen_34 : decode zb_MPainter_seen 34 = .ok (.aload_n 0, 1) := by decide +kernel
theorem zd_MPainter_seen_35 : decode zb_MPainter_seen 35 = .ok (.getfield 129, 3) := by decide +kernel
theorem zd_MPainter_seen_38 : decode zb_MPainter_seen 38 = .ok (.getfield 148, 3) := by decide +kernel
theorem zd_MPainter_seen_41 : decode zb_MPainter_seen 41 = .ok (.iload_n 2, 1) := by decide +kernel
theorem zd_MPainter_seen_42 : decode zb_MPainter_seen 42 = .ok (.iaload, 1) := by decide +kernel
theorem zd_MPainter_seen_43 : decode zb_MPainter_seen 43 = .ok (.istore_n 2, 1) := by decide +kernel
theorem zd_MPainter_seen_44 : decode zb_MPainter_seen 44 = .ok (.goto (-28), 3) := by decide +kernel
theorem zd_MPainter_seen_47 : decode zb_MPainter_seen 47 = .ok (.iconst 1, 1) := by decide +kernel
theorem zd_MPainter_seen_48 : decode zb_MPainter_seen 48 = .ok (.ireturn, 1) := by decide +kernel
theorem zw_1377 : (Jvm.Cond.fieldLink "OrreryBoxModel$Painter" (167 : Nat) "OrreryBoxModel$Scene" "mesh" "[I") ∈ gw := gw_t 1377 (by decide +kernel) rfl
theorem zw_1390 : (Jvm.Cond.fieldLink "OrreryBoxModel$Painter" (170 : Nat) "OrreryBoxModel$Scene" "hidden" "[Z") ∈ gw := gw_t 1390 (by decide +kernel) rfl
def L_MPainter_seen_16 (sh : zSh) (fuel : Nat) (v0 : Nat) (v2 : Int32) (mm : zMem) : Option (Nat × Int32 × Nat × Int32 × zMem) := match fuel with
  | 0 => none
  | fu + 1 => (if v2 < 0 then some (1, (0 : Int32), v0, v2, mm) else zoS (sh v0) 13 (fun le13 => Option.bind (mm.2.2 v0 5) (fun a14 => zoS (sh a14) 15 (fun le16 => Option.bind (mm.2.2 a14 24) (fun a17 => zoS (sh a17) 103 (fun le19 => if (v2 : Int32) < 0 ∨ le19 ≤ (v2 : Int32).toNatClampNeg then none else (if (mm.1 a17 (v2 : Int32).toNatClampNeg) = 0 then zoS (sh v0) 13 (fun le23 => Option.bind (mm.2.2 v0 5) (fun a24 => zoS (sh a24) 15 (fun le26 => Option.bind (mm.2.2 a24 19) (fun a27 => zoS (sh a27) 100 (fun le29 => if (v2 : Int32) < 0 ∨ le29 ≤ (v2 : Int32).toNatClampNeg then none else zoL (mm.1 a27 (v2 : Int32).toNatClampNeg) (fun x31 => L_MPainter_seen_16 sh fu v0 x31 mm)))))) else some (0, 0, (0 : Nat), (0 : Int32), mm))))))))
set_option maxHeartbeats 4000000 in
set_option maxRecDepth 100000 in
theorem lp_MPainter_seen_16 {p : Program} {l : Launch} {e : Env} {s : State} {m : MethodId} {args : Array Value} {below : List Frame} {meth : Method} {c : Code} {D : va_G} {tA : Nat → ClassId} {b n : Nat} {post : Option Value → zV → Nat → Prop} {sh : zSh} (F : zF p s m args meth c zb_MPainter_seen 3 "OrreryBoxModel$Painter" D tA b) (hr : meth.sig.returnType = (some .boolean)) : ∀ (fuel : Nat) (v0 : Nat) (v2 : Int32) (mm : zMem) (r : Nat × Int32 × Nat × Int32 × zMem), L_MPainter_seen_16 sh fuel v0 v2 mm = some r → (r.1 = 1 → Z p l e { frames := 0, cells := 0, slots := 0, locals := 0 } s m args below meth c D b 3 (MQ below (zQ D b post) args s 0 0 (fun q => b ≤ q)) (zW tA b sh r.2.2.2.2) n 0 0 47 [(0, .ref (b + (r.2.2.1))), (2, .int (r.2.2.2.1))] []) → (r.1 = 0 → post (some (.int r.2.1)) (zW tA b sh r.2.2.2.2) n) → Z p l e { frames := 0, cells := 0, slots := 0, locals := 0 } s m args below meth c D b 3 (MQ below (zQ D b post) args s 0 0 (fun q => b ≤ q)) (zW tA b sh mm) n 0 0 16 [(0, .ref (b + v0)), (2, .int v2)] [] := by
  intro fuel
  induction fuel with
  | zero =>
    intro v0 v2 mm r h
    cases h
  | succ fu ih =>
    intro v0 v2 mm r h hx0 hp
    rw [L_MPainter_seen_16] at h
    refine zr_iload_n F zd_MPainter_seen_16 rfl ?_
    refine zr_if_lt F 47 zd_MPainter_seen_17 (by decide) (fun hb11 => ?_) (fun hb11 => ?_)
    ·
      rw [if_pos hb11] at h
      obtain rfl := Option.some.inj h
      refine zr_loc (L' := [(0, .ref (b + v0)), (2, .int v2)]) ⟨rfl, rfl, trivial⟩ ?_
      exact hx0 rfl
    ·
      rw [if_neg hb11] at h
      refine zr_aload_n F zd_MPainter_seen_20 rfl ?_
      obtain ⟨le13, hs12, h⟩ := zoS_s h
      obtain ⟨a14, ea14, h⟩ := zoB_s h
      refine zr_get F 13 5 zd_MPainter_seen_21 (zW_o hs12 (by decide)) rfl (by decide) zw_1581 rfl (by rfl) ?_
      refine zr_tor ea14 ?_
      obtain ⟨le16, hs15, h⟩ := zoS_s h
      obtain ⟨a17, ea17, h⟩ := zoB_s h
      refine zr_get F 15 24 zd_MPainter_seen_24 (zW_o hs15 (by decide)) rfl (by decide) zw_1390 rfl (by rfl) ?_
      refine zr_tor ea17 ?_
      refine zr_iload_n F zd_MPainter_seen_27 rfl ?_
      obtain ⟨le19, hs18, h⟩ := zoS_s h
      obtain ⟨hi20, h⟩ := zoI_s h
      refine zr_zald F zd_MPainter_seen_28 (zW_a3 hs18) hi20 ?_
      refine zr_pcn 29 rfl ?_
      refine zr_if_eq F 34 zd_MPainter_seen_29 (by decide) (fun hb21 => ?_) (fun hb21 => ?_)
      ·
        rw [if_pos hb21] at h
        refine zr_aload_n F zd_MPainter_seen_34 rfl ?_
        obtain ⟨le23, hs22, h⟩ := zoS_s h
        obtain ⟨a24, ea24, h⟩ := zoB_s h
        refine zr_get F 13 5 zd_MPainter_seen_35 (zW_o hs22 (by decide)) rfl (by decide) zw_1581 rfl (by rfl) ?_
        refine zr_tor ea24 ?_
        obtain ⟨le26, hs25, h⟩ := zoS_s h
        obtain ⟨a27, ea27, h⟩ := zoB_s h
        refine zr_get F 15 19 zd_MPainter_seen_38 (zW_o hs25 (by decide)) rfl (by decide) zw_1373 rfl (by rfl) ?_
        refine zr_tor ea27 ?_
        refine zr_iload_n F zd_MPainter_seen_41 rfl ?_
        obtain ⟨le29, hs28, h⟩ := zoS_s h
        obtain ⟨hi30, h⟩ := zoI_s h
        refine zr_iald F zd_MPainter_seen_42 (zW_a0 hs28) hi30 ?_
        obtain ⟨x31, ex31, h⟩ := zoL_s h
        rw [← ex31]
        refine zr_istore_n F zd_MPainter_seen_43 (by decide) ?_
        refine zr_goto F 16 zd_MPainter_seen_44 (by decide) ?_
        refine zr_loc (L' := [(0, .ref (b + v0)), (2, .int x31)]) ⟨rfl, rfl, trivial⟩ ?_
        exact ih _ _ _ _ h hx0 hp
      ·
        rw [if_neg hb21] at h
        refine zr_pcn 32 rfl ?_
        refine zr_iconstv (v := 0) F zd_MPainter_seen_32 (by decide) ?_
        obtain rfl := Option.some.inj h
        exact zr_zret F hr rfl zd_MPainter_seen_33 (Nat.le_of_ble_eq_true rfl) (Nat.le_of_ble_eq_true rfl) (hp rfl)
def F_MPainter_seen (sh : zSh) (mm : zMem) (o : Nat) (x0_ : Int32) : Option (Int32 × zMem) := zoS (sh o) 13 (fun le2 => Option.bind (mm.2.2 o 5) (fun a3 => zoS (sh a3) 15 (fun le5 => Option.bind (mm.2.2 a3 20) (fun a6 => zoS (sh a6) 100 (fun le8 => if (x0_ : Int32) < 0 ∨ le8 ≤ (x0_ : Int32).toNatClampNeg then none else (if 0 ≤ (mm.1 a6 (x0_ : Int32).toNatClampNeg) then Option.bind (L_MPainter_seen_16 sh zfuel o x0_ mm) (fun q32 => (if q32.1 = 1 then some (1, q32.2.2.2.2) else some (q32.2.1, q32.2.2.2.2))) else some (0, mm)))))))
set_option maxHeartbeats 4000000 in
set_option maxRecDepth 100000 in
theorem k_MPainter_seen (l : Launch) (D : va_G) (tA : Nat → ClassId) (b : Nat) (sh : zSh) (n : Nat) {mm : zMem} {o : Nat} {x0_ : Int32} {r : (Int32 × zMem)} (h : F_MPainter_seen sh mm o x0_ = some r) : zM l D tA b zy_MPainter_seen zb_MPainter_seen 3 (some .boolean) 0 0 0 0 [.ref (b + o), .int x0_] (zW tA b sh mm) n (zE (some (.int (r.1))) (zW tA b sh r.2) n) := by
  unfold F_MPainter_seen at h
  refine zM_of (own := "OrreryBoxModel$Painter") (plainFor_of_name (by decide)) rfl (Nat.le_of_ble_eq_true rfl) (fun p e s m below meth c F hr hin hH => ?_)
  refine zr_aload_n F zd_MPainter_seen_0 rfl ?_
  obtain ⟨le2, hs1, h⟩ := zoS_s h
  obtain ⟨a3, ea3, h⟩ := zoB_s h
  refine zr_get F 13 5 zd_MPainter_seen_1 (zW_o hs1 (by decide)) rfl (by decide) zw_1581 rfl (by rfl) ?_
  refine zr_tor ea3 ?_
  obtain ⟨le5, hs4, h⟩ := zoS_s h
  obtain ⟨a6, ea6, h⟩ := zoB_s h
  refine zr_get F 15 20 zd_MPainter_seen_4 (zW_o hs4 (by decide)) rfl (by decide) zw_1377 rfl (by rfl) ?_
  refine zr_tor ea6 ?_
  refine zr_iload_n F zd_MPainter_seen_7 rfl ?_
  obtain ⟨le8, hs7, h⟩ := zoS_s h
  obtain ⟨hi9, h⟩ := zoI_s h
  refine zr_iald F zd_MPainter_seen_8 (zW_a0 hs7) hi9 ?_
  refine zr_if_ge F 14 zd_MPainter_seen_9 (by decide) (fun hb10 => ?_) (fun hb10 => ?_)
  ·
    rw [if_pos hb10] at h
    refine zr_iload_n F zd_MPainter_seen_14 rfl ?_
    refine zr_pcn 15 rfl ?_
    refine zr_istore_n F zd_MPainter_seen_15 (by decide) ?_
    obtain ⟨q32, eq32, h⟩ := zoB_s h
    refine zr_loc (L' := [(0, .ref (b + o)), (2, .int x0_)]) ⟨rfl, rfl, trivial⟩ ?_
    refine lp_MPainter_seen_16 F hr _ _ _ _ _ eq32 ?_ ?_
    ·
      intro ec
      rw [if_pos ec] at h
      refine zr_iconstv (v := 1) F zd_MPainter_seen_47 (by decide) ?_
      obtain rfl := Option.some.inj h
      exact zr_zret F hr rfl zd_MPainter_seen_48 (Nat.le_of_ble_eq_true rfl) (Nat.le_of_ble_eq_true rfl) ⟨rfl, rfl, rfl⟩
    ·
      intro ec
      rw [if_neg (by rw [ec]; decide)] at h
      obtain rfl := Option.some.inj h
      exact ⟨rfl, rfl, rfl⟩
  ·
    rw [if_neg hb10] at h
    refine zr_iconstv (v := 0) F zd_MPainter_seen_12 (by decide) ?_
    obtain rfl := Option.some.inj h
    exact zr_zret F hr rfl zd_MPainter_seen_13 (Nat.le_of_ble_eq_true rfl) (Nat.le_of_ble_eq_true rfl) ⟨rfl, rfl, rfl⟩
abbrev zb_MPainter_materialOf : ByteArray := prog_16_method_17_code
def zy_MPainter_materialOf : MethodName := ⟨"OrreryBoxModel$Painter", "materialOf", "(I)I"⟩
theorem zc_MPainter_materialOf : Cond.code zy_MPainter_materialOf zb_MPainter_materialOf 2 (some .int) ∈ gw := gw_t 2087 (by decide +kernel) rfl
theorem zq_MPainter_materialOf : zy_MPainter_materialOf.cls ≠ "java/lang/invoke/MethodHandle" ∧ zy_MPainter_materialOf.cls ≠ "java/lang/invoke/VarHandle" ∧ (parseMethodDescriptor zy_MPainter_materialOf.desc).map (fun d => d.parameters.length) = some 1 := by decide +kernel
theorem zd_MPainter_materialOf_0 : decode zb_MPainter_materialOf 0 = .ok (.aload_n 0, 1) := by decide +kernel
theorem zd_MPainter_materialOf_1 : decode zb_MPainter_materialOf 1 = .ok (.getfield 129, 3) := by decide +kernel
theorem zd_MPainter_materialOf_4 : decode zb_MPainter_materialOf 4 = .ok (.getfield 174, 3) := by decide +kernel
theorem zd_MPainter_materialOf_7 : decode zb_MPainter_materialOf 7 = .ok (.aload_n 0, 1) := by decide +kernel
theorem zd_MPainter_materialOf_8 : decode zb_MPainter_materialOf 8 = .ok (.getfield 129, 3) := by decide +kernel
theorem zd_MPainter_materialOf_11 : decode zb_MPainter_materialOf 11 = .ok (.getfield 167, 3) := by decide +kernel
theorem zd_MPainter_materialOf_14 : decode zb_MPainter_materialOf 14 = .ok (.iload_n 1, 1) := by decide +kernel
theorem zd_MPainter_materialOf_15 : decode zb_MPainter_materialOf 15 = .ok (.iaload, 1) := by decide +kernel
theorem zd_MPainter_materialOf_16 : decode zb_MPainter_materialOf 16 = .ok (.iaload, 1) := by decide +kernel
theorem zd_MPainter_materialOf_17 : decode zb_MPainter_materialOf 17 = .ok (.ireturn, 1) := by decide +kernel
theorem zw_1353 : (Jvm.Cond.fieldLink "OrreryBoxModel$Painter" (174 : Nat) "OrreryBoxModel$Scene" "material" "[I") ∈ gw := gw_t 1353 (by decide +kernel) rfl
def F_MPainter_materialOf (sh : zSh) (mm : zMem) (o : Nat) (x0_ : Int32) : Option (Int32 × zMem) := zoS (sh o) 13 (fun le2 => Option.bind (mm.2.2 o 5) (fun a3 => zoS (sh a3) 15 (fun le5 => Option.bind (mm.2.2 a3 12) (fun a6 => zoS (sh o) 13 (fun le8 => Option.bind (mm.2.2 o 5) (fun a9 => zoS (sh a9) 15 (fun le11 => Option.bind (mm.2.2 a9 20) (fun a12 => zoS (sh a12) 100 (fun le14 => if (x0_ : Int32) < 0 ∨ le14 ≤ (x0_ : Int32).toNatClampNeg then none else zoL (mm.1 a12 (x0_ : Int32).toNatClampNeg) (fun i16 => zoS (sh a6) 100 (fun le18 => if (i16 : Int32) < 0 ∨ le18 ≤ (i16 : Int32).toNatClampNeg then none else some ((mm.1 a6 (i16 : Int32).toNatClampNeg), mm))))))))))))
set_option maxHeartbeats 4000000 in
set_option maxRecDepth 100000 in
theorem k_MPainter_materialOf (l : Launch) (D : va_G) (tA : Nat → ClassId) (b : Nat) (sh : zSh) (n : Nat) {mm : zMem} {o : Nat} {x0_ : Int32} {r : (Int32 × zMem)} (h : F_MPainter_materialOf sh mm o x0_ = some r) : zM l D tA b zy_MPainter_materialOf zb_MPainter_materialOf 2 (some .int) 0 0 0 0 [.ref (b + o), .int x0_] (zW tA b sh mm) n (zE (some (.int (r.1))) (zW tA b sh r.2) n) := by
  unfold F_MPainter_materialOf at h
  refine zM_of (own := "OrreryBoxModel$Painter") (plainFor_of_name (by decide)) rfl (Nat.le_of_ble_eq_true rfl) (fun p e s m below meth c F hr hin hH => ?_)
  refine zr_aload_n F zd_MPainter_materialOf_0 rfl ?_
  obtain ⟨le2, hs1, h⟩ := zoS_s h
  obtain ⟨a3, ea3, h⟩ := zoB_s h
  refine zr_get F 13 5 zd_MPainter_materialOf_1 (zW_o hs1 (by decide)) rfl (by decide) zw_1581 rfl (by rfl) ?_
  refine zr_tor ea3 ?_
  obtain ⟨le5, hs4, h⟩ := zoS_s h
  obtain ⟨a6, ea6, h⟩ := zoB_s h
  refine zr_get F 15 12 zd_MPainter_materialOf_4 (zW_o hs4 (by decide)) rfl (by decide) zw_1353 rfl (by rfl) ?_
  refine zr_tor ea6 ?_
  refine zr_aload_n F zd_MPainter_materialOf_7 rfl ?_
  obtain ⟨le8, hs7, h⟩ := zoS_s h
  obtain ⟨a9, ea9, h⟩ := zoB_s h
  refine zr_get F 13 5 zd_MPainter_materialOf_8 (zW_o hs7 (by decide)) rfl (by decide) zw_1581 rfl (by rfl) ?_
  refine zr_tor ea9 ?_
  obtain ⟨le11, hs10, h⟩ := zoS_s h
  obtain ⟨a12, ea12, h⟩ := zoB_s h
  refine zr_get F 15 20 zd_MPainter_materialOf_11 (zW_o hs10 (by decide)) rfl (by decide) zw_1377 rfl (by rfl) ?_
  refine zr_tor ea12 ?_
  refine zr_iload_n F zd_MPainter_materialOf_14 rfl ?_
  refine zr_pcn 15 rfl ?_
  obtain ⟨le14, hs13, h⟩ := zoS_s h
  obtain ⟨hi15, h⟩ := zoI_s h
  refine zr_iald F zd_MPainter_materialOf_15 (zW_a0 hs13) hi15 ?_
  obtain ⟨i16, ei16, h⟩ := zoL_s h
  rw [← ei16]
  obtain ⟨le18, hs17, h⟩ := zoS_s h
  obtain ⟨hi19, h⟩ := zoI_s h
  refine zr_iald F zd_MPainter_materialOf_16 (zW_a0 hs17) hi19 ?_
  obtain rfl := Option.some.inj h
  exact zr_iret F hr zd_MPainter_materialOf_17 (Nat.le_of_ble_eq_true rfl) (Nat.le_of_ble_eq_true rfl) ⟨rfl, rfl, rfl⟩
abbrev zb_MPainter_solid : ByteArray := prog_16_method_18_code
def zy_MPainter_solid : MethodName := ⟨"OrreryBoxModel$Painter", "solid", "(I)Z"⟩
theorem zc_MPainter_solid : Cond.code zy_MPainter_solid zb_MPainter_solid 2 (some .boolean) ∈ gw := gw_t 2083 (by decide +kernel) rfl
theorem zq_MPainter_solid : zy_MPainter_solid.cls ≠ "java/lang/invoke/MethodHandle" ∧ zy_MPainter_solid.cls ≠ "java/lang/invoke/VarHandle" ∧ (parseMethodDescriptor zy_MPainter_solid.desc).map (fun d => d.parameters.length) = some 1 := by decide +kernel
theorem zd_MPainter_solid_0 : decode zb_MPainter_solid 0 = .ok (.aload_n 0, 1) := by decide +kernel
theorem zd_MPainter_solid_1 : decode zb_MPainter_solid 1 = .ok (.getfield 129, 3) := by decide +kernel
theorem zd_MPainter_solid_4 : decode zb_MPainter_solid 4 = .ok (.getfield 177, 3) := by decide +kernel
theorem zd_MPainter_solid_7 : decode zb_MPainter_solid 7 = .ok (.iconst 4, 1) := by decide +kernel
theorem zd_MPainter_solid_8 : decode zb_MPainter_solid 8 = .ok (.aload_n 0, 1) := by decide +kernel
theorem zd_MPainter_solid_9 : decode zb_MPainter_solid 9 = .ok (.iload_n 1, 1) := by decide +kernel
theorem zd_MPainter_solid_10 : decode zb_MPainter_solid 10 = .ok (.invokevirtual 180, 3) := by decide +kernel
theorem zd_MPainter_solid_13 : decode zb_MPainter_solid 13 = .ok (.imul, 1) := by decide +kernel
theorem zd_MPainter_solid_14 : decode zb_MPainter_solid 14 = .ok (.iconst 3, 1) := by decide +kernel
theorem zd_MPainter_solid_15 : decode zb_MPainter_solid 15 = .ok (.iadd, 1) := by decide +kernel
theorem zd_MPainter_solid_16 : decode zb_MPainter_solid 16 = .ok (.iaload, 1) := by decide +kernel
theorem zd_MPainter_solid_17 : decode zb_MPainter_solid 17 = .ok (.sipush 255, 3) := by decide +kernel
theorem zd_MPainter_solid_20 : decode zb_MPainter_solid 20 = .ok (.if_icmp .ne 7, 3) := by decide +kernel
theorem zd_MPainter_solid_23 : decode zb_MPainter_solid 23 = .ok (.iconst 1, 1) := by decide +kernel
theorem zd_MPainter_solid_24 : decode zb_MPainter_solid 24 = .ok (.goto 4, 3) := by decide +kernel
theorem zd_MPainter_solid_27 : decode zb_MPainter_solid 27 = .ok (.iconst 0, 1) := by decide +kernel
theorem zd_MPainter_solid_28 : decode zb_MPainter_solid 28 = .ok (.ireturn, 1) := by decide +kernel
theorem zw_1345 : (Jvm.Cond.fieldLink "OrreryBoxModel$Painter" (177 : Nat) "OrreryBoxModel$Scene" "colour" "[I") ∈ gw := gw_t 1345 (by decide +kernel) rfl
theorem zw_2084 : (Jvm.Cond.methodLink "OrreryBoxModel$Painter" (180 : Nat) ({ cls := "OrreryBoxModel$Painter", name := "materialOf", desc := "(I)I" } : Jvm.MethodName)) ∈ gw := gw_t 2084 (by decide +kernel) rfl
theorem zw_2086 : (Jvm.Cond.instanceMethod ({ cls := "OrreryBoxModel$Painter", name := "materialOf", desc := "(I)I" } : Jvm.MethodName)) ∈ gw := gw_t 2086 (by decide +kernel) rfl
theorem zv_102 : (Jvm.Cond.selects "OrreryBoxModel$Painter" (⟨"OrreryBoxModel$Painter", "materialOf", "(I)I"⟩ : MethodName) ⟨"OrreryBoxModel$Painter", "materialOf", "(I)I"⟩) ∈ gw := gw_s 102 (by decide +kernel) rfl
theorem zs_MPainter_180 : zwV "OrreryBoxModel$Painter" 180 "OrreryBoxModel$Painter" zy_MPainter_materialOf zb_MPainter_materialOf 2 (some .int) := ⟨zw_2084, zw_2086, zv_102, zw_17, zc_MPainter_materialOf⟩
def F_MPainter_solid (sh : zSh) (mm : zMem) (o : Nat) (x0_ : Int32) : Option (Int32 × zMem) := zoS (sh o) 13 (fun le2 => Option.bind (mm.2.2 o 5) (fun a3 => zoS (sh a3) 15 (fun le5 => Option.bind (mm.2.2 a3 9) (fun a6 => zoS (sh o) 13 (fun le8 => Option.bind (F_MPainter_materialOf sh mm o x0_) (fun p9 => zoL ((4 * p9.1) + 3) (fun i10 => zoS (sh a6) 100 (fun le12 => if (i10 : Int32) < 0 ∨ le12 ≤ (i10 : Int32).toNatClampNeg then none else (if ((p9.2).1 a6 (i10 : Int32).toNatClampNeg) = 255 then some (1, p9.2) else some (0, p9.2))))))))))
set_option maxHeartbeats 4000000 in
set_option maxRecDepth 100000 in
theorem k_MPainter_solid (l : Launch) (D : va_G) (tA : Nat → ClassId) (b : Nat) (sh : zSh) (n : Nat) {mm : zMem} {o : Nat} {x0_ : Int32} {r : (Int32 × zMem)} (h : F_MPainter_solid sh mm o x0_ = some r) : zM l D tA b zy_MPainter_solid zb_MPainter_solid 2 (some .boolean) 1 21 0 0 [.ref (b + o), .int x0_] (zW tA b sh mm) n (zE (some (.int (r.1))) (zW tA b sh r.2) n) := by
  unfold F_MPainter_solid at h
  refine zM_of (own := "OrreryBoxModel$Painter") (plainFor_of_name (by decide)) rfl (Nat.le_of_ble_eq_true rfl) (fun p e s m below meth c F hr hin hH => ?_)
  refine zr_aload_n F zd_MPainter_solid_0 rfl ?_
  obtain ⟨le2, hs1, h⟩ := zoS_s h
  obtain ⟨a3, ea3, h⟩ := zoB_s h
  refine zr_get F 13 5 zd_MPainter_solid_1 (zW_o hs1 (by decide)) rfl (by decide) zw_1581 rfl (by rfl) ?_
  refine zr_tor ea3 ?_
  obtain ⟨le5, hs4, h⟩ := zoS_s h
  obtain ⟨a6, ea6, h⟩ := zoB_s h
  refine zr_get F 15 9 zd_MPainter_solid_4 (zW_o hs4 (by decide)) rfl (by decide) zw_1345 rfl (by rfl) ?_
  refine zr_tor ea6 ?_
  refine zr_iconstv (v := 4) F zd_MPainter_solid_7 (by decide) ?_
  refine zr_aload_n F zd_MPainter_solid_8 rfl ?_
  refine zr_iload_n F zd_MPainter_solid_9 rfl ?_
  obtain ⟨le8, hs7, h⟩ := zoS_s h
  obtain ⟨p9, ep9, h⟩ := zoB_s h
  refine zr_callV1 F (k_MPainter_materialOf l D tA b sh _ ep9) zd_MPainter_solid_10 (zW_o hs7 (by decide)) rfl zs_MPainter_180 rfl zq_MPainter_materialOf rfl rfl ⟨(Nat.le_of_ble_eq_true rfl), (Nat.le_of_ble_eq_true rfl)⟩ (Nat.le_of_ble_eq_true rfl) ⟨(Nat.le_of_ble_eq_true rfl), (Nat.le_of_ble_eq_true rfl)⟩ ?_
  refine zr_pcn 13 rfl ?_
  refine zr_imul F zd_MPainter_solid_13 ?_
  refine zr_iconstv (v := 3) F zd_MPainter_solid_14 (by decide) ?_
  refine zr_iadd F zd_MPainter_solid_15 ?_
  obtain ⟨i10, ei10, h⟩ := zoL_s h
  rw [← ei10]
  obtain ⟨le12, hs11, h⟩ := zoS_s h
  obtain ⟨hi13, h⟩ := zoI_s h
  refine zr_iald F zd_MPainter_solid_16 (zW_a0 hs11) hi13 ?_
  refine zr_sipushv (v := 255) F zd_MPainter_solid_17 (by decide) ?_
  refine zr_icmp_ne F 27 zd_MPainter_solid_20 (by decide) (fun hb14 => ?_) (fun hb14 => ?_)
  ·
    rw [if_neg hb14] at h
    refine zr_iconstv (v := 0) F zd_MPainter_solid_27 (by decide) ?_
    obtain rfl := Option.some.inj h
    exact zr_zret F hr rfl zd_MPainter_solid_28 (Nat.le_of_ble_eq_true rfl) (Nat.le_of_ble_eq_true rfl) ⟨rfl, rfl, rfl⟩
  ·
    rw [if_pos hb14] at h
    refine zr_pcn 23 rfl ?_
    refine zr_iconstv (v := 1) F zd_MPainter_solid_23 (by decide) ?_
    refine zr_goto F 28 zd_MPainter_solid_24 (by decide) ?_
    obtain rfl := Option.some.inj h
    exact zr_zret F hr rfl zd_MPainter_solid_28 (Nat.le_of_ble_eq_true rfl) (Nat.le_of_ble_eq_true rfl) ⟨rfl, rfl, rfl⟩
abbrev zb_MPainter_ahead : ByteArray := prog_16_method_19_code
def zy_MPainter_ahead : MethodName := ⟨"OrreryBoxModel$Painter", "ahead", "(II)Z"⟩
theorem zc_MPainter_ahead : Cond.code zy_MPainter_ahead zb_MPainter_ahead 3 (some .boolean) ∈ gw := gw_t 2079 (by decide +kernel) rfl
theorem zq_MPainter_ahead : zy_MPainter_ahead.cls ≠ "java/lang/invoke/MethodHandle" ∧ zy_MPainter_ahead.cls ≠ "java/lang/invoke/VarHandle" ∧ (parseMethodDescriptor zy_MPainter_ahead.desc).map (fun d => d.parameters.length) = some 2 := by decide +kernel
theorem zd_MPainter_ahead_0 : decode zb_MPainter_ahead 0 = .ok (.aload_n 0, 1) := by decide +kernel
theorem zd_MPainter_ahead_1 : decode zb_MPainter_ahead 1 = .ok (.iload_n 1, 1) := by decide +kernel
theorem zd_MPainter_ahead_2 : decode zb_MPainter_ahead 2 = .ok (.invokevirtual 184, 3) := by decide +kernel
theorem zd_MPainter_ahead_5 : decode zb_MPainter_ahead 5 = .ok (.aload_n 0, 1) := by decide +kernel
theorem zd_MPainter_ahead_6 : decode zb_MPainter_ahead 6 = .ok (.iload_n 2, 1) := by decide +kernel
theorem zd_MPainter_ahead_7 : decode zb_MPainter_ahead 7 = .ok (.invokevirtual 184, 3) := by decide +kernel
theorem zd_MPainter_ahead_10 : decode zb_MPainter_ahead 10 = .ok (.if_icmp .eq 9, 3) := by decide +kernel
theorem zd_MPainter_ahead_13 : decode zb_MPainter_ahead 13 = .ok (.aload_n 0, 1) := by decide +kernel
theorem zd_MPainter_ahead_14 : decode zb_MPainter_ahead 14 = .ok (.iload_n 1, 1) := by decide +kernel
theorem zd_MPainter_ahead_15 : decode zb_MPainter_ahead 15 = .ok (.invokevirtual 184, 3) := by decide +kernel
theorem zd_MPainter_ahead_18 : decode zb_MPainter_ahead 18 = .ok (.ireturn, 1) := by decide +kernel
theorem zd_MPainter_ahead_19 : decode zb_MPainter_ahead 19 = .ok (.aload_n 0, 1) := by decide +kernel
theorem zd_MPainter_ahead_20 : decode zb_MPainter_ahead 20 = .ok (.getfield 34, 3) := by decide +kernel
theorem zd_MPainter_ahead_23 : decode zb_MPainter_ahead 23 = .ok (.iload_n 1, 1) := by decide +kernel
theorem zd_MPainter_ahead_24 : decode zb_MPainter_ahead 24 = .ok (.laload, 1) := by decide +kernel
theorem zd_MPainter_ahead_25 : decode zb_MPainter_ahead 25 = .ok (.aload_n 0, 1) := by decide +kernel
theorem zd_MPainter_ahead_26 : decode zb_MPainter_ahead 26 = .ok (.getfield 34, 3) := by decide +kernel
theorem zd_MPainter_ahead_29 : decode zb_MPainter_ahead 29 = .ok (.iload_n 2, 1) := by decide +kernel
theorem zd_MPainter_ahead_30 : decode zb_MPainter_ahead 30 = .ok (.laload, 1) := by decide +kernel
theorem zd_MPainter_ahead_31 : decode zb_MPainter_ahead 31 = .ok (.lcmp, 1) := by decide +kernel
theorem zd_MPainter_ahead_32 : decode zb_MPainter_ahead 32 = .ok (.ifCond .eq 57, 3) := by decide +kernel
theorem zd_MPainter_ahead_35 : decode zb_MPainter_ahead 35 = .ok (.aload_n 0, 1) := by decide +kernel
theorem zd_MPainter_ahead_36 : decode zb_MPainter_ahead 36 = .ok (.iload_n 1, 1) := by decide +kernel
theorem zd_MPainter_ahead_37 : decode zb_MPainter_ahead 37 = .ok (.invokevirtual 184, 3) := by decide +kernel
theorem zd_MPainter_ahead_40 : decode zb_MPainter_ahead 40 = .ok (.ifCond .eq 27, 3) := by decide +kernel
theorem zd_MPainter_ahead_43 : decode zb_MPainter_ahead 43 = .ok (.aload_n 0, 1) := by decide +kernel
theorem zd_MPainter_ahead_44 : decode zb_MPainter_ahead 44 = .ok (.getfield 34, 3) := by decide +kernel
theorem zd_MPainter_ahead_47 : decode zb_MPainter_ahead 47 = .ok (.iload_n 1, 1) := by decide +kernel
theorem zd_MPainter_ahead_48 : decode zb_MPainter_ahead 48 = .ok (.laload, 1) := by decide +kernel
theorem zd_MPainter_ahead_49 : decode zb_MPainter_ahead 49 = .ok (.aload_n 0, 1) := by decide +kernel
theorem zd_MPainter_ahead_50 : decode zb_MPainter_ahead 50 = .ok (.getfield 34, 3) := by decide +kernel
theorem zd_MPainter_ahead_53 : decode zb_MPainter_ahead 53 = .ok (.iload_n 2, 1) := by decide +kernel
theorem zd_MPainter_ahead_54 : decode zb_MPainter_ahead 54 = .ok (.laload, 1) := by decide +kernel
theorem zd_MPainter_ahead_55 : decode zb_MPainter_ahead 55 = .ok (.lcmp, 1) := by decide +kernel
theorem zd_MPainter_ahead_56 : decode zb_MPainter_ahead 56 = .ok (.ifCond .ge 7, 3) := by decide +kernel
theorem zd_MPainter_ahead_59 : decode zb_MPainter_ahead 59 = .ok (.iconst 1, 1) := by decide +kernel
theorem zd_MPainter_ahead_60 : decode zb_MPainter_ahead 60 = .ok (.goto 28, 3) := by decide +kernel
theorem zd_MPainter_ahead_63 : decode zb_MPainter_ahead 63 = .ok (.iconst 0, 1) := by decide +kernel
theorem zd_MPainter_ahead_64 : decode zb_MPainter_ahead 64 = .ok (.goto 24, 3) := by decide +kernel
theorem zd_MPainter_ahead_67 : decode zb_MPainter_ahead 67 = .ok (.aload_n 0, 1) := by decide +kernel
theorem zd_MPainter_ahead_68 : decode zb_MPainter_ahead 68 = .ok (.getfield 34, 3) := by decide +kernel
theorem zd_MPainter_ahead_71 : decode zb_MPainter_ahead 71 = .ok (.iload_n 1, 1) := by decide +kernel
theorem zd_MPainter_ahead_72 : decode zb_MPainter_ahead 72 = .ok (.laload, 1) := by decide +kernel
theorem zd_MPainter_ahead_73 : decode zb_MPainter_ahead 73 = .ok (.aload_n 0, 1) := by decide +kernel
theorem zd_MPainter_ahead_74 : decode zb_MPainter_ahead 74 = .ok (.getfield 34, 3) := by decide +kernel
theorem zd_MPainter_ahead_77 : decode zb_MPainter_ahead 77 = .ok (.iload_n 2, 1) := by decide +kernel
theorem zd_MPainter_ahead_78 : decode zb_MPainter_ahead 78 = .ok (.laload, 1) := by decide +kernel
theorem zd_MPainter_ahead_79 : decode zb_MPainter_ahead 79 = .ok (.lcmp, 1) := by decide +kernel
theorem zd_MPainter_ahead_80 : decode zb_MPainter_ahead 80 = .ok (.ifCond .le 7, 3) := by decide +kernel
theorem zd_MPainter_ahead_83 : decode zb_MPainter_ahead 83 = .ok (.iconst 1, 1) := by decide +kernel
theorem zd_MPainter_ahead_84 : decode zb_MPainter_ahead 84 = .ok (.goto 4, 3) := by decide +kernel
theorem zd_MPainter_ahead_87 : decode zb_MPainter_ahead 87 = .ok (.iconst 0, 1) := by decide +kernel
theorem zd_MPainter_ahead_88 : decode zb_MPainter_ahead 88 = .ok (.ireturn, 1) := by decide +kernel
theorem zd_MPainter_ahead_89 : decode zb_MPainter_ahead 89 = .ok (.iload_n 1, 1) := by decide +kernel
theorem zd_MPainter_ahead_90 : decode zb_MPainter_ahead 90 = .ok (.iload_n 2, 1) := by decide +kernel
theorem zd_MPainter_ahead_91 : decode zb_MPainter_ahead 91 = .ok (.if_icmp .ge 7, 3) := by decide +kernel
theorem zd_MPainter_ahead_94 : decode zb_MPainter_ahead 94 = .ok (.iconst 1, 1) := by decide +kernel
theorem zd_MPainter_ahead_95 : decode zb_MPainter_ahead 95 = .ok (.goto 4, 3) := by decide +kernel
theorem zd_MPainter_ahead_98 : decode zb_MPainter_ahead 98 = .ok (.iconst 0, 1) := by decide +kernel
theorem zd_MPainter_ahead_99 : decode zb_MPainter_ahead 99 = .ok (.ireturn, 1) := by decide +kernel
theorem zw_2080 : (Jvm.Cond.methodLink "OrreryBoxModel$Painter" (184 : Nat) ({ cls := "OrreryBoxModel$Painter", name := "solid", desc := "(I)Z" } : Jvm.MethodName)) ∈ gw := gw_t 2080 (by decide +kernel) rfl
theorem zw_2082 : (Jvm.Cond.instanceMethod ({ cls := "OrreryBoxModel$Painter", name := "solid", desc := "(I)Z" } : Jvm.MethodName)) ∈ gw := gw_t 2082 (by decide +kernel) rfl
theorem zv_101 : (Jvm.Cond.selects "OrreryBoxModel$Painter" (⟨"OrreryBoxModel$Painter", "solid", "(I)Z"⟩ : MethodName) ⟨"OrreryBoxModel$Painter", "solid", "(I)Z"⟩) ∈ gw := gw_s 101 (by decide +kernel) rfl
theorem zs_MPainter_184 : zwV "OrreryBoxModel$Painter" 184 "OrreryBoxModel$Painter" zy_MPainter_solid zb_MPainter_solid 2 (some .boolean) := ⟨zw_2080, zw_2082, zv_101, zw_17, zc_MPainter_solid⟩
def F_MPainter_ahead (sh : zSh) (mm : zMem) (o : Nat) (x0_ : Int32) (x1_ : Int32) : Option (Int32 × zMem) := zoS (sh o) 13 (fun le2 => Option.bind (F_MPainter_solid sh mm o x0_) (fun p3 => zoS (sh o) 13 (fun le5 => Option.bind (F_MPainter_solid sh (p3.2) o x1_) (fun p6 => (if p3.1 = p6.1 then zoS (sh o) 13 (fun le9 => Option.bind ((p6.2).2.2 o 21) (fun a10 => zoS (sh a10) 102 (fun le12 => if (x0_ : Int32) < 0 ∨ le12 ≤ (x0_ : Int32).toNatClampNeg then none else zoS (sh o) 13 (fun le15 => Option.bind ((p6.2).2.2 o 21) (fun a16 => zoS (sh a16) 102 (fun le18 => if (x1_ : Int32) < 0 ∨ le18 ≤ (x1_ : Int32).toNatClampNeg then none else (if (lg_cmp ((p6.2).2.1 a10 (x0_ : Int32).toNatClampNeg) ((p6.2).2.1 a16 (x1_ : Int32).toNatClampNeg)) = 0 then (if x1_ ≤ x0_ then some (0, p6.2) else some (1, p6.2)) else zoS (sh o) 13 (fun le23 => Option.bind (F_MPainter_solid sh (p6.2) o x0_) (fun p24 => (if p24.1 = 0 then zoS (sh o) 13 (fun le27 => Option.bind ((p24.2).2.2 o 21) (fun a28 => zoS (sh a28) 102 (fun le30 => if (x0_ : Int32) < 0 ∨ le30 ≤ (x0_ : Int32).toNatClampNeg then none else zoS (sh o) 13 (fun le33 => Option.bind ((p24.2).2.2 o 21) (fun a34 => zoS (sh a34) 102 (fun le36 => if (x1_ : Int32) < 0 ∨ le36 ≤ (x1_ : Int32).toNatClampNeg then none else (if (lg_cmp ((p24.2).2.1 a28 (x0_ : Int32).toNatClampNeg) ((p24.2).2.1 a34 (x1_ : Int32).toNatClampNeg)) ≤ 0 then some (0, p24.2) else some (1, p24.2)))))))) else zoS (sh o) 13 (fun le40 => Option.bind ((p24.2).2.2 o 21) (fun a41 => zoS (sh a41) 102 (fun le43 => if (x0_ : Int32) < 0 ∨ le43 ≤ (x0_ : Int32).toNatClampNeg then none else zoS (sh o) 13 (fun le46 => Option.bind ((p24.2).2.2 o 21) (fun a47 => zoS (sh a47) 102 (fun le49 => if (x1_ : Int32) < 0 ∨ le49 ≤ (x1_ : Int32).toNatClampNeg then none else (if 0 ≤ (lg_cmp ((p24.2).2.1 a41 (x0_ : Int32).toNatClampNeg) ((p24.2).2.1 a47 (x1_ : Int32).toNatClampNeg)) then some (0, p24.2) else some (1, p24.2)))))))))))))))))) else zoS (sh o) 13 (fun le53 => Option.bind (F_MPainter_solid sh (p6.2) o x0_) (fun p54 => (if vp_nar .boolean (p54.1) = (p54.1) then some (p54.1, p54.2) else none))))))))
set_option maxHeartbeats 4000000 in
set_option maxRecDepth 100000 in
theorem k_MPainter_ahead (l : Launch) (D : va_G) (tA : Nat → ClassId) (b : Nat) (sh : zSh) (n : Nat) {mm : zMem} {o : Nat} {x0_ : Int32} {x1_ : Int32} {r : (Int32 × zMem)} (h : F_MPainter_ahead sh mm o x0_ x1_ = some r) : zM l D tA b zy_MPainter_ahead zb_MPainter_ahead 3 (some .boolean) 2 42 0 0 [.ref (b + o), .int x0_, .int x1_] (zW tA b sh mm) n (zE (some (.int (r.1))) (zW tA b sh r.2) n) := by
  unfold F_MPainter_ahead at h
  refine zM_of (own := "OrreryBoxModel$Painter") (plainFor_of_name (by decide)) rfl (Nat.le_of_ble_eq_true rfl) (fun p e s m below meth c F hr hin hH => ?_)
  refine zr_aload_n F zd_MPainter_ahead_0 rfl ?_
  refine zr_iload_n F zd_MPainter_ahead_1 rfl ?_
  obtain ⟨le2, hs1, h⟩ := zoS_s h
  obtain ⟨p3, ep3, h⟩ := zoB_s h
  refine zr_callV1 F (k_MPainter_solid l D tA b sh _ ep3) zd_MPainter_ahead_2 (zW_o hs1 (by decide)) rfl zs_MPainter_184 rfl zq_MPainter_solid rfl rfl ⟨(Nat.le_of_ble_eq_true rfl), (Nat.le_of_ble_eq_true rfl)⟩ (Nat.le_of_ble_eq_true rfl) ⟨(Nat.le_of_ble_eq_true rfl), (Nat.le_of_ble_eq_true rfl)⟩ ?_
  refine zr_aload_n F zd_MPainter_ahead_5 rfl ?_
  refine zr_iload_n F zd_MPainter_ahead_6 rfl ?_
  obtain ⟨le5, hs4, h⟩ := zoS_s h
  obtain ⟨p6, ep6, h⟩ := zoB_s h
  refine zr_callV1 F (k_MPainter_solid l D tA b sh _ ep6) zd_MPainter_ahead_7 (zW_o hs4 (by decide)) rfl zs_MPainter_184 rfl zq_MPainter_solid rfl rfl ⟨(Nat.le_of_ble_eq_true rfl), (Nat.le_of_ble_eq_true rfl)⟩ (Nat.le_of_ble_eq_true rfl) ⟨(Nat.le_of_ble_eq_true rfl), (Nat.le_of_ble_eq_true rfl)⟩ ?_
  refine zr_icmp_eq F 19 zd_MPainter_ahead_10 (by decide) (fun hb7 => ?_) (fun hb7 => ?_)
  ·
    rw [if_pos hb7] at h
    refine zr_pcn 19 rfl ?_
    refine zr_aload_n F zd_MPainter_ahead_19 rfl ?_
    obtain ⟨le9, hs8, h⟩ := zoS_s h
    obtain ⟨a10, ea10, h⟩ := zoB_s h
    refine zr_get F 13 21 zd_MPainter_ahead_20 (zW_o hs8 (by decide)) rfl (by decide) zw_1601 rfl (by rfl) ?_
    refine zr_tor ea10 ?_
    refine zr_iload_n F zd_MPainter_ahead_23 rfl ?_
    obtain ⟨le12, hs11, h⟩ := zoS_s h
    obtain ⟨hi13, h⟩ := zoI_s h
    refine zr_lald F zd_MPainter_ahead_24 (zW_a2 hs11) hi13 ?_
    refine zr_aload_n F zd_MPainter_ahead_25 rfl ?_
    obtain ⟨le15, hs14, h⟩ := zoS_s h
    obtain ⟨a16, ea16, h⟩ := zoB_s h
    refine zr_get F 13 21 zd_MPainter_ahead_26 (zW_o hs14 (by decide)) rfl (by decide) zw_1601 rfl (by rfl) ?_
    refine zr_tor ea16 ?_
    refine zr_iload_n F zd_MPainter_ahead_29 rfl ?_
    obtain ⟨le18, hs17, h⟩ := zoS_s h
    obtain ⟨hi19, h⟩ := zoI_s h
    refine zr_lald F zd_MPainter_ahead_30 (zW_a2 hs17) hi19 ?_
    refine zr_pcn 31 rfl ?_
    refine zr_lcmp F zd_MPainter_ahead_31 ?_
    refine zr_if_eq F 89 zd_MPainter_ahead_32 (by decide) (fun hb20 => ?_) (fun hb20 => ?_)
    ·
      rw [if_pos hb20] at h
      refine zr_iload_n F zd_MPainter_ahead_89 rfl ?_
      refine zr_iload_n F zd_MPainter_ahead_90 rfl ?_
      refine zr_icmp_ge F 98 zd_MPainter_ahead_91 (by decide) (fun hb21 => ?_) (fun hb21 => ?_)
      ·
        rw [if_pos hb21] at h
        refine zr_iconstv (v := 0) F zd_MPainter_ahead_98 (by decide) ?_
        obtain rfl := Option.some.inj h
        exact zr_zret F hr rfl zd_MPainter_ahead_99 (Nat.le_of_ble_eq_true rfl) (Nat.le_of_ble_eq_true rfl) ⟨rfl, rfl, rfl⟩
      ·
        rw [if_neg hb21] at h
        refine zr_iconstv (v := 1) F zd_MPainter_ahead_94 (by decide) ?_
        refine zr_pcn 95 rfl ?_
        refine zr_goto F 99 zd_MPainter_ahead_95 (by decide) ?_
        obtain rfl := Option.some.inj h
        exact zr_zret F hr rfl zd_MPainter_ahead_99 (Nat.le_of_ble_eq_true rfl) (Nat.le_of_ble_eq_true rfl) ⟨rfl, rfl, rfl⟩
    ·
      rw [if_neg hb20] at h
      refine zr_aload_n F zd_MPainter_ahead_35 rfl ?_
      refine zr_iload_n F zd_MPainter_ahead_36 rfl ?_
      obtain ⟨le23, hs22, h⟩ := zoS_s h
      obtain ⟨p24, ep24, h⟩ := zoB_s h
      refine zr_callV1 F (k_MPainter_solid l D tA b sh _ ep24) zd_MPainter_ahead_37 (zW_o hs22 (by decide)) rfl zs_MPainter_184 rfl zq_MPainter_solid rfl rfl ⟨(Nat.le_of_ble_eq_true rfl), (Nat.le_of_ble_eq_true rfl)⟩ (Nat.le_of_ble_eq_true rfl) ⟨(Nat.le_of_ble_eq_true rfl), (Nat.le_of_ble_eq_true rfl)⟩ ?_
      refine zr_if_eq F 67 zd_MPainter_ahead_40 (by decide) (fun hb25 => ?_) (fun hb25 => ?_)
      ·
        rw [if_pos hb25] at h
        refine zr_aload_n F zd_MPainter_ahead_67 rfl ?_
        obtain ⟨le27, hs26, h⟩ := zoS_s h
        obtain ⟨a28, ea28, h⟩ := zoB_s h
        refine zr_get F 13 21 zd_MPainter_ahead_68 (zW_o hs26 (by decide)) rfl (by decide) zw_1601 rfl (by rfl) ?_
        refine zr_tor ea28 ?_
        refine zr_pcn 71 rfl ?_
        refine zr_iload_n F zd_MPainter_ahead_71 rfl ?_
        obtain ⟨le30, hs29, h⟩ := zoS_s h
        obtain ⟨hi31, h⟩ := zoI_s h
        refine zr_lald F zd_MPainter_ahead_72 (zW_a2 hs29) hi31 ?_
        refine zr_aload_n F zd_MPainter_ahead_73 rfl ?_
        obtain ⟨le33, hs32, h⟩ := zoS_s h
        obtain ⟨a34, ea34, h⟩ := zoB_s h
        refine zr_get F 13 21 zd_MPainter_ahead_74 (zW_o hs32 (by decide)) rfl (by decide) zw_1601 rfl (by rfl) ?_
        refine zr_tor ea34 ?_
        refine zr_iload_n F zd_MPainter_ahead_77 rfl ?_
        obtain ⟨le36, hs35, h⟩ := zoS_s h
        obtain ⟨hi37, h⟩ := zoI_s h
        refine zr_lald F zd_MPainter_ahead_78 (zW_a2 hs35) hi37 ?_
        refine zr_lcmp F zd_MPainter_ahead_79 ?_
        refine zr_if_le F 87 zd_MPainter_ahead_80 (by decide) (fun hb38 => ?_) (fun hb38 => ?_)
        ·
          rw [if_pos hb38] at h
          refine zr_pcn 87 rfl ?_
          refine zr_iconstv (v := 0) F zd_MPainter_ahead_87 (by decide) ?_
          obtain rfl := Option.some.inj h
          exact zr_zret F hr rfl zd_MPainter_ahead_88 (Nat.le_of_ble_eq_true rfl) (Nat.le_of_ble_eq_true rfl) ⟨rfl, rfl, rfl⟩
        ·
          rw [if_neg hb38] at h
          refine zr_iconstv (v := 1) F zd_MPainter_ahead_83 (by decide) ?_
          refine zr_goto F 88 zd_MPainter_ahead_84 (by decide) ?_
          obtain rfl := Option.some.inj h
          exact zr_zret F hr rfl zd_MPainter_ahead_88 (Nat.le_of_ble_eq_true rfl) (Nat.le_of_ble_eq_true rfl) ⟨rfl, rfl, rfl⟩
      ·
        rw [if_neg hb25] at h
        refine zr_aload_n F zd_MPainter_ahead_43 rfl ?_
        obtain ⟨le40, hs39, h⟩ := zoS_s h
        obtain ⟨a41, ea41, h⟩ := zoB_s h
        refine zr_get F 13 21 zd_MPainter_ahead_44 (zW_o hs39 (by decide)) rfl (by decide) zw_1601 rfl (by rfl) ?_
        refine zr_tor ea41 ?_
        refine zr_iload_n F zd_MPainter_ahead_47 rfl ?_
        refine zr_pcn 48 rfl ?_
        obtain ⟨le43, hs42, h⟩ := zoS_s h
        obtain ⟨hi44, h⟩ := zoI_s h
        refine zr_lald F zd_MPainter_ahead_48 (zW_a2 hs42) hi44 ?_
        refine zr_aload_n F zd_MPainter_ahead_49 rfl ?_
        obtain ⟨le46, hs45, h⟩ := zoS_s h
        obtain ⟨a47, ea47, h⟩ := zoB_s h
        refine zr_get F 13 21 zd_MPainter_ahead_50 (zW_o hs45 (by decide)) rfl (by decide) zw_1601 rfl (by rfl) ?_
        refine zr_tor ea47 ?_
        refine zr_iload_n F zd_MPainter_ahead_53 rfl ?_
        obtain ⟨le49, hs48, h⟩ := zoS_s h
        obtain ⟨hi50, h⟩ := zoI_s h
        refine zr_lald F zd_MPainter_ahead_54 (zW_a2 hs48) hi50 ?_
        refine zr_lcmp F zd_MPainter_ahead_55 ?_
        refine zr_if_ge F 63 zd_MPainter_ahead_56 (by decide) (fun hb51 => ?_) (fun hb51 => ?_)
        ·
          rw [if_pos hb51] at h
          refine zr_iconstv (v := 0) F zd_MPainter_ahead_63 (by decide) ?_
          refine zr_pcn 64 rfl ?_
          refine zr_goto F 88 zd_MPainter_ahead_64 (by decide) ?_
          obtain rfl := Option.some.inj h
          exact zr_zret F hr rfl zd_MPainter_ahead_88 (Nat.le_of_ble_eq_true rfl) (Nat.le_of_ble_eq_true rfl) ⟨rfl, rfl, rfl⟩
        ·
          rw [if_neg hb51] at h
          refine zr_iconstv (v := 1) F zd_MPainter_ahead_59 (by decide) ?_
          refine zr_goto F 88 zd_MPainter_ahead_60 (by decide) ?_
          obtain rfl := Option.some.inj h
          exact zr_zret F hr rfl zd_MPainter_ahead_88 (Nat.le_of_ble_eq_true rfl) (Nat.le_of_ble_eq_true rfl) ⟨rfl, rfl, rfl⟩
  ·
    rw [if_neg hb7] at h
    refine zr_aload_n F zd_MPainter_ahead_13 rfl ?_
    refine zr_iload_n F zd_MPainter_ahead_14 rfl ?_
    obtain ⟨le53, hs52, h⟩ := zoS_s h
    obtain ⟨p54, ep54, h⟩ := zoB_s h
    refine zr_callV1 F (k_MPainter_solid l D tA b sh _ ep54) zd_MPainter_ahead_15 (zW_o hs52 (by decide)) rfl zs_MPainter_184 rfl zq_MPainter_solid rfl rfl ⟨(Nat.le_of_ble_eq_true rfl), (Nat.le_of_ble_eq_true rfl)⟩ (Nat.le_of_ble_eq_true rfl) ⟨(Nat.le_of_ble_eq_true rfl), (Nat.le_of_ble_eq_true rfl)⟩ ?_
    refine zr_pcn 18 rfl ?_
    obtain ⟨hn55, h⟩ := zoT_s h
    obtain rfl := Option.some.inj h
    exact zr_zret F hr (zx_narZ hn55) zd_MPainter_ahead_18 (Nat.le_of_ble_eq_true rfl) (Nat.le_of_ble_eq_true rfl) ⟨rfl, rfl, rfl⟩
abbrev zb_MPainter_toCorner : ByteArray := prog_16_method_21_code
def zy_MPainter_toCorner : MethodName := ⟨"OrreryBoxModel$Painter", "toCorner", "(III)V"⟩
theorem zc_MPainter_toCorner : Cond.code zy_MPainter_toCorner zb_MPainter_toCorner 8 none ∈ gw := gw_t 2095 (by decide +kernel) rfl
theorem zq_MPainter_toCorner : zy_MPainter_toCorner.cls ≠ "java/lang/invoke/MethodHandle" ∧ zy_MPainter_toCorner.cls ≠ "java/lang/invoke/VarHandle" ∧ (parseMethodDescriptor zy_MPainter_toCorner.desc).map (fun d => d.parameters.length) = some 3 := by decide +kernel
theorem zd_MPainter_toCorner_0 : decode zb_MPainter_toCorner 0 = .ok (.iconst 0, 1) := by decide +kernel
theorem zd_MPainter_toCorner_1 : decode zb_MPainter_toCorner 1 = .ok (.istore 4, 2) := by decide +kernel
theorem zd_MPainter_toCorner_3 : decode zb_MPainter_toCorner 3 = .ok (.iload 4, 2) := by decide +kernel
theorem zd_MPainter_toCorner_5 : decode zb_MPainter_toCorner 5 = .ok (.iconst 3, 1) := by decide +kernel
theorem zd_MPainter_toCorner_6 : decode zb_MPainter_toCorner 6 = .ok (.if_icmp .ge 47, 3) := by decide +kernel
theorem zd_MPainter_toCorner_9 : decode zb_MPainter_toCorner 9 = .ok (.aload_n 0, 1) := by decide +kernel
theorem zd_MPainter_toCorner_10 : decode zb_MPainter_toCorner 10 = .ok (.getfield 40, 3) := by decide +kernel
theorem zd_MPainter_toCorner_13 : decode zb_MPainter_toCorner 13 = .ok (.bipush 6, 2) := by decide +kernel
theorem zd_MPainter_toCorner_15 : decode zb_MPainter_toCorner 15 = .ok (.iload_n 2, 1) := by decide +kernel
theorem zd_MPainter_toCorner_16 : decode zb_MPainter_toCorner 16 = .ok (.imul, 1) := by decide +kernel
theorem zd_MPainter_toCorner_17 : decode zb_MPainter_toCorner 17 = .ok (.iload 4, 2) := by decide +kernel
theorem zd_MPainter_toCorner_19 : decode zb_MPainter_toCorner 19 = .ok (.iadd, 1) := by decide +kernel
theorem zd_MPainter_toCorner_20 : decode zb_MPainter_toCorner 20 = .ok (.aload_n 0, 1) := by decide +kernel
theorem zd_MPainter_toCorner_21 : decode zb_MPainter_toCorner 21 = .ok (.getfield 18, 3) := by decide +kernel
theorem zd_MPainter_toCorner_24 : decode zb_MPainter_toCorner 24 = .ok (.iload 4, 2) := by decide +kernel
theorem zd_MPainter_toCorner_26 : decode zb_MPainter_toCorner 26 = .ok (.aload_n 0, 1) := by decide +kernel
theorem zd_MPainter_toCorner_27 : decode zb_MPainter_toCorner 27 = .ok (.getfield 129, 3) := by decide +kernel
theorem zd_MPainter_toCorner_30 : decode zb_MPainter_toCorner 30 = .ok (.getfield 211, 3) := by decide +kernel
theorem zd_MPainter_toCorner_33 : decode zb_MPainter_toCorner 33 = .ok (.sipush 384, 3) := by decide +kernel
theorem zd_MPainter_toCorner_36 : decode zb_MPainter_toCorner 36 = .ok (.iload_n 1, 1) := by decide +kernel
theorem zd_MPainter_toCorner_37 : decode zb_MPainter_toCorner 37 = .ok (.imul, 1) := by decide +kernel
theorem zd_MPainter_toCorner_38 : decode zb_MPainter_toCorner 38 = .ok (.iconst 3, 1) := by decide +kernel
theorem zd_MPainter_toCorner_39 : decode zb_MPainter_toCorner 39 = .ok (.iload_n 3, 1) := by decide +kernel
theorem zd_MPainter_toCorner_40 : decode zb_MPainter_toCorner 40 = .ok (.imul, 1) := by decide +kernel
theorem zd_MPainter_toCorner_41 : decode zb_MPainter_toCorner 41 = .ok (.iadd, 1) := by decide +kernel
theorem zd_MPainter_toCorner_42 : decode zb_MPainter_toCorner 42 = .ok (.iconst 1, 1) := by decide +kernel
theorem zd_MPainter_toCorner_43 : decode zb_MPainter_toCorner 43 = .ok (.invokestatic 214, 3) := by decide +kernel
theorem zd_MPainter_toCorner_46 : decode zb_MPainter_toCorner 46 = .ok (.lastore, 1) := by decide +kernel
theorem zd_MPainter_toCorner_47 : decode zb_MPainter_toCorner 47 = .ok (.iinc 4 1, 3) := by decide +kernel
theorem zd_MPainter_toCorner_50 : decode zb_MPainter_toCorner 50 = .ok (.goto (-47), 3) := by decide +kernel
theorem zd_MPainter_toCorner_53 : decode zb_MPainter_toCorner 53 = .ok (.aload_n 0, 1) := by decide +kernel
theorem zd_MPainter_toCorner_54 : decode zb_MPainter_toCorner 54 = .ok (.getfield 40, 3) := by decide +kernel
theorem zd_MPainter_toCorner_57 : decode zb_MPainter_toCorner 57 = .ok (.bipush 6, 2) := by decide +kernel
theorem zd_MPainter_toCorner_59 : decode zb_MPainter_toCorner 59 = .ok (.iload_n 2, 1) := by decide +kernel
theorem zd_MPainter_toCorner_60 : decode zb_MPainter_toCorner 60 = .ok (.imul, 1) := by decide +kernel
theorem zd_MPainter_toCorner_61 : decode zb_MPainter_toCorner 61 = .ok (.iconst 3, 1) := by decide +kernel
theorem zd_MPainter_toCorner_62 : decode zb_MPainter_toCorner 62 = .ok (.iadd, 1) := by decide +kernel
theorem zd_MPainter_toCorner_63 : decode zb_MPainter_toCorner 63 = .ok (.aload_n 0, 1) := by decide +kernel
theorem zd_MPainter_toCorner_64 : decode zb_MPainter_toCorner 64 = .ok (.getfield 129, 3) := by decide +kernel
theorem zd_MPainter_toCorner_67 : decode zb_MPainter_toCorner 67 = .ok (.getfield 218, 3) := by decide +kernel
theorem zd_MPainter_toCorner_70 : decode zb_MPainter_toCorner 70 = .ok (.sipush 256, 3) := by decide +kernel
theorem zd_MPainter_toCorner_73 : decode zb_MPainter_toCorner 73 = .ok (.iload_n 1, 1) := by decide +kernel
theorem zd_MPainter_toCorner_74 : decode zb_MPainter_toCorner 74 = .ok (.imul, 1) := by decide +kernel
theorem zd_MPainter_toCorner_75 : decode zb_MPainter_toCorner 75 = .ok (.iconst 2, 1) := by decide +kernel
theorem zd_MPainter_toCorner_76 : decode zb_MPainter_toCorner 76 = .ok (.iload_n 3, 1) := by decide +kernel
theorem zd_MPainter_toCorner_77 : decode zb_MPainter_toCorner 77 = .ok (.imul, 1) := by decide +kernel
theorem zd_MPainter_toCorner_78 : decode zb_MPainter_toCorner 78 = .ok (.iadd, 1) := by decide +kernel
theorem zd_MPainter_toCorner_79 : decode zb_MPainter_toCorner 79 = .ok (.iaload, 1) := by decide +kernel
theorem zd_MPainter_toCorner_80 : decode zb_MPainter_toCorner 80 = .ok (.i2l, 1) := by decide +kernel
theorem zd_MPainter_toCorner_81 : decode zb_MPainter_toCorner 81 = .ok (.lastore, 1) := by decide +kernel
theorem zd_MPainter_toCorner_82 : decode zb_MPainter_toCorner 82 = .ok (.aload_n 0, 1) := by decide +kernel
theorem zd_MPainter_toCorner_83 : decode zb_MPainter_toCorner 83 = .ok (.getfield 40, 3) := by decide +kernel
theorem zd_MPainter_toCorner_86 : decode zb_MPainter_toCorner 86 = .ok (.bipush 6, 2) := by decide +kernel
theorem zd_MPainter_toCorner_88 : decode zb_MPainter_toCorner 88 = .ok (.iload_n 2, 1) := by decide +kernel
theorem zd_MPainter_toCorner_89 : decode zb_MPainter_toCorner 89 = .ok (.imul, 1) := by decide +kernel
theorem zd_MPainter_toCorner_90 : decode zb_MPainter_toCorner 90 = .ok (.iconst 4, 1) := by decide +kernel
theorem zd_MPainter_toCorner_91 : decode zb_MPainter_toCorner 91 = .ok (.iadd, 1) := by decide +kernel
theorem zd_MPainter_toCorner_92 : decode zb_MPainter_toCorner 92 = .ok (.aload_n 0, 1) := by decide +kernel
theorem zd_MPainter_toCorner_93 : decode zb_MPainter_toCorner 93 = .ok (.getfield 129, 3) := by decide +kernel
theorem zd_MPainter_toCorner_96 : decode zb_MPainter_toCorner 96 = .ok (.getfield 218, 3) := by decide +kernel
theorem zd_MPainter_toCorner_99 : decode zb_MPainter_toCorner 99 = .ok (.sipush 256, 3) := by decide +kernel
theorem zd_MPainter_toCorner_102 : decode zb_MPainter_toCorner 102 = .ok (.iload_n 1, 1) := by decide +kernel
theorem zd_MPainter_toCorner_103 : decode zb_MPainter_toCorner 103 = .ok (.imul, 1) := by decide +kernel
theorem zd_MPainter_toCorner_104 : decode zb_MPainter_toCorner 104 = .ok (.iconst 2, 1) := by decide +kernel
theorem zd_MPainter_toCorner_105 : decode zb_MPainter_toCorner 105 = .ok (.iload_n 3, 1) := by decide +kernel
theorem zd_MPainter_toCorner_106 : decode zb_MPainter_toCorner 106 = .ok (.imul, 1) := by decide +kernel
theorem zd_MPainter_toCorner_107 : decode zb_MPainter_toCorner 107 = .ok (.iadd, 1) := by decide +kernel
theorem zd_MPainter_toCorner_108 : decode zb_MPainter_toCorner 108 = .ok (.iconst 1, 1) := by decide +kernel
theorem zd_MPainter_toCorner_109 : decode zb_MPainter_toCorner 109 = .ok (.iadd, 1) := by decide +kernel
theorem zd_MPainter_toCorner_110 : decode zb_MPainter_toCorner 110 = .ok (.iaload, 1) := by decide +kernel
theorem zd_MPainter_toCorner_111 : decode zb_MPainter_toCorner 111 = .ok (.i2l, 1) := by decide +kernel
theorem zd_MPainter_toCorner_112 : decode zb_MPainter_toCorner 112 = .ok (.lastore, 1) := by decide +kernel
theorem zd_MPainter_toCorner_113 : decode zb_MPainter_toCorner 113 = .ok (.lconst 0, 1) := by decide +kernel
theorem zd_MPainter_toCorner_114 : decode zb_MPainter_toCorner 114 = .ok (.lstore 4, 2) := by decide +kernel
theorem zd_MPainter_toCorner_116 : decode zb_MPainter_toCorner 116 = .ok (.iconst 0, 1) := by decide +kernel
theorem zd_MPainter_toCorner_117 : decode zb_MPainter_toCorner 117 = .ok (.istore 6, 2) := by decide +kernel
theorem zd_MPainter_toCorner_119 : decode zb_MPainter_toCorner 119 = .ok (.iload 6, 2) := by decide +kernel
theorem zd_MPainter_toCorner_121 : decode zb_MPainter_toCorner 121 = .ok (.iconst 3, 1) := by decide +kernel
theorem zd_MPainter_toCorner_122 : decode zb_MPainter_toCorner 122 = .ok (.if_icmp .ge 54, 3) := by decide +kernel
theorem zd_MPainter_toCorner_125 : decode zb_MPainter_toCorner 125 = .ok (.lload 4, 2) := by decide +kernel
theorem zd_MPainter_toCorner_127 : decode zb_MPainter_toCorner 127 = .ok (.aload_n 0, 1) := by decide +kernel
theorem zd_MPainter_toCorner_128 : decode zb_MPainter_toCorner 128 = .ok (.getfield 9, 3) := by decide +kernel
theorem zd_MPainter_toCorner_131 : decode zb_MPainter_toCorner 131 = .ok (.iload 6, 2) := by decide +kernel
theorem zd_MPainter_toCorner_133 : decode zb_MPainter_toCorner 133 = .ok (.aload_n 0, 1) := by decide +kernel
theorem zd_MPainter_toCorner_134 : decode zb_MPainter_toCorner 134 = .ok (.getfield 129, 3) := by decide +kernel
theorem zd_MPainter_toCorner_137 : decode zb_MPainter_toCorner 137 = .ok (.getfield 221, 3) := by decide +kernel
theorem zd_MPainter_toCorner_140 : decode zb_MPainter_toCorner 140 = .ok (.sipush 384, 3) := by decide +kernel
theorem zd_MPainter_toCorner_143 : decode zb_MPainter_toCorner 143 = .ok (.iload_n 1, 1) := by decide +kernel
theorem zd_MPainter_toCorner_144 : decode zb_MPainter_toCorner 144 = .ok (.imul, 1) := by decide +kernel
theorem zd_MPainter_toCorner_145 : decode zb_MPainter_toCorner 145 = .ok (.iconst 3, 1) := by decide +kernel
theorem zd_MPainter_toCorner_146 : decode zb_MPainter_toCorner 146 = .ok (.iload_n 3, 1) := by decide +kernel
theorem zd_MPainter_toCorner_147 : decode zb_MPainter_toCorner 147 = .ok (.imul, 1) := by decide +kernel
theorem zd_MPainter_toCorner_148 : decode zb_MPainter_toCorner 148 = .ok (.iadd, 1) := by decide +kernel
theorem zd_MPainter_toCorner_149 : decode zb_MPainter_toCorner 149 = .ok (.iconst 0, 1) := by decide +kernel
theorem zd_MPainter_toCorner_150 : decode zb_MPainter_toCorner 150 = .ok (.invokestatic 214, 3) := by decide +kernel
theorem zd_MPainter_toCorner_153 : decode zb_MPainter_toCorner 153 = .ok (.aload_n 0, 1) := by decide +kernel
theorem zd_MPainter_toCorner_154 : decode zb_MPainter_toCorner 154 = .ok (.getfield 129, 3) := by decide +kernel
theorem zd_MPainter_toCorner_157 : decode zb_MPainter_toCorner 157 = .ok (.getfield 224, 3) := by decide +kernel
theorem zd_MPainter_toCorner_160 : decode zb_MPainter_toCorner 160 = .ok (.iload 6, 2) := by decide +kernel
theorem zd_MPainter_toCorner_162 : decode zb_MPainter_toCorner 162 = .ok (.iaload, 1) := by decide +kernel
theorem zd_MPainter_toCorner_163 : decode zb_MPainter_toCorner 163 = .ok (.i2l, 1) := by decide +kernel
theorem zd_MPainter_toCorner_164 : decode zb_MPainter_toCorner 164 = .ok (.invokestatic 108, 3) := by decide +kernel
theorem zd_MPainter_toCorner_167 : decode zb_MPainter_toCorner 167 = .ok (.ladd, 1) := by decide +kernel
theorem zd_MPainter_toCorner_168 : decode zb_MPainter_toCorner 168 = .ok (.lstore 4, 2) := by decide +kernel
theorem zd_MPainter_toCorner_170 : decode zb_MPainter_toCorner 170 = .ok (.iinc 6 1, 3) := by decide +kernel
theorem zd_MPainter_toCorner_173 : decode zb_MPainter_toCorner 173 = .ok (.goto (-54), 3) := by decide +kernel
theorem zd_MPainter_toCorner_176 : decode zb_MPainter_toCorner 176 = .ok (.aload_n 0, 1) := by decide +kernel
theorem zd_MPainter_toCorner_177 : decode zb_MPainter_toCorner 177 = .ok (.getfield 129, 3) := by decide +kernel
theorem zd_MPainter_toCorner_180 : decode zb_MPainter_toCorner 180 = .ok (.getfield 227, 3) := by decide +kernel
theorem zd_MPainter_toCorner_183 : decode zb_MPainter_toCorner 183 = .ok (.i2l, 1) := by decide +kernel
theorem zd_MPainter_toCorner_184 : decode zb_MPainter_toCorner 184 = .ok (.lload 4, 2) := by decide +kernel
theorem zd_MPainter_toCorner_186 : decode zb_MPainter_toCorner 186 = .ok (.lconst 0, 1) := by decide +kernel
theorem zd_MPainter_toCorner_187 : decode zb_MPainter_toCorner 187 = .ok (.lcmp, 1) := by decide +kernel
theorem zd_MPainter_toCorner_188 : decode zb_MPainter_toCorner 188 = .ok (.ifCond .le 8, 3) := by decide +kernel
theorem zd_MPainter_toCorner_191 : decode zb_MPainter_toCorner 191 = .ok (.lload 4, 2) := by decide +kernel
theorem zd_MPainter_toCorner_193 : decode zb_MPainter_toCorner 193 = .ok (.goto 4, 3) := by decide +kernel
theorem zd_MPainter_toCorner_196 : decode zb_MPainter_toCorner 196 = .ok (.lconst 0, 1) := by decide +kernel
theorem zd_MPainter_toCorner_197 : decode zb_MPainter_toCorner 197 = .ok (.ladd, 1) := by decide +kernel
theorem zd_MPainter_toCorner_198 : decode zb_MPainter_toCorner 198 = .ok (.lstore 6, 2) := by decide +kernel
theorem zd_MPainter_toCorner_200 : decode zb_MPainter_toCorner 200 = .ok (.aload_n 0, 1) := by decide +kernel
theorem zd_MPainter_toCorner_201 : decode zb_MPainter_toCorner 201 = .ok (.getfield 40, 3) := by decide +kernel
theorem zd_MPainter_toCorner_204 : decode zb_MPainter_toCorner 204 = .ok (.bipush 6, 2) := by decide +kernel
theorem zd_MPainter_toCorner_206 : decode zb_MPainter_toCorner 206 = .ok (.iload_n 2, 1) := by decide +kernel
theorem zd_MPainter_toCorner_207 : decode zb_MPainter_toCorner 207 = .ok (.imul, 1) := by decide +kernel
theorem zd_MPainter_toCorner_208 : decode zb_MPainter_toCorner 208 = .ok (.iconst 5, 1) := by decide +kernel
theorem zd_MPainter_toCorner_209 : decode zb_MPainter_toCorner 209 = .ok (.iadd, 1) := by decide +kernel
theorem zd_MPainter_toCorner_210 : decode zb_MPainter_toCorner 210 = .ok (.lload 6, 2) := by decide +kernel
theorem zd_MPainter_toCorner_212 : decode zb_MPainter_toCorner 212 = .ok (.ldc2_w 80, 3) := by decide +kernel
theorem zd_MPainter_toCorner_215 : decode zb_MPainter_toCorner 215 = .ok (.lcmp, 1) := by decide +kernel
theorem zd_MPainter_toCorner_216 : decode zb_MPainter_toCorner 216 = .ok (.ifCond .ge 8, 3) := by decide +kernel
theorem zd_MPainter_toCorner_219 : decode zb_MPainter_toCorner 219 = .ok (.lload 6, 2) := by decide +kernel
theorem zd_MPainter_toCorner_221 : decode zb_MPainter_toCorner 221 = .ok (.goto 6, 3) := by decide +kernel
theorem zd_MPainter_toCorner_224 : decode zb_MPainter_toCorner 224 = .ok (.ldc2_w 80, 3) := by decide +kernel
theorem zd_MPainter_toCorner_227 : decode zb_MPainter_toCorner 227 = .ok (.lastore, 1) := by decide +kernel
theorem zd_MPainter_toCorner_228 : decode zb_MPainter_toCorner 228 = .ok (.return_, 1) := by decide +kernel
theorem zw_1362 : (Jvm.Cond.fieldLink "OrreryBoxModel$Painter" (211 : Nat) "OrreryBoxModel$Scene" "point" "[I") ∈ gw := gw_t 1362 (by decide +kernel) rfl
theorem zw_2096 : (Jvm.Cond.methodLink "OrreryBoxModel$Painter" (214 : Nat) ({ cls := "OrreryBoxModel$Painter", name := "applied", desc := "([JI[IIZ)J" } : Jvm.MethodName)) ∈ gw := gw_t 2096 (by decide +kernel) rfl
theorem zw_2097 : (Jvm.Cond.static ({ cls := "OrreryBoxModel$Painter", name := "applied", desc := "([JI[IIZ)J" } : Jvm.MethodName)) ∈ gw := gw_t 2097 (by decide +kernel) rfl
theorem zs_MPainter_214 : zwS "OrreryBoxModel$Painter" 214 zy_MPainter_applied zb_MPainter_applied 7 (some .long) := ⟨zw_2096, zw_2097, zw_17, zc_MPainter_applied⟩
def L_MPainter_toCorner_3 (sh : zSh) (fuel : Nat) (v0 : Nat) (v1 : Int32) (v2 : Int32) (v3 : Int32) (v4 : Int32) (mm : zMem) : Option (Nat × Int32 × Int32 × Int32 × Int32 × zMem) := match fuel with
  | 0 => none
  | fu + 1 => (if 3 ≤ v4 then some (v0, v1, v2, v3, v4, mm) else zoS (sh v0) 13 (fun le3 => Option.bind (mm.2.2 v0 23) (fun a4 => zoS (sh v0) 13 (fun le6 => Option.bind (mm.2.2 v0 16) (fun a7 => zoS (sh v0) 13 (fun le9 => Option.bind (mm.2.2 v0 5) (fun a10 => zoS (sh a10) 15 (fun le12 => Option.bind (mm.2.2 a10 15) (fun a13 => Option.bind (F_MPainter_applied sh mm a7 v4 a13 ((384 * v1) + (3 * v3)) 1) (fun p14 => zoL ((6 * v2) + v4) (fun i15 => zoS (sh a4) 102 (fun le17 => if (i15 : Int32) < 0 ∨ le17 ≤ (i15 : Int32).toNatClampNeg then none else zoL (mL (p14.2) a4 (i15 : Int32).toNatClampNeg (p14.1)) (fun mm19 => L_MPainter_toCorner_3 sh fu v0 v1 v2 v3 (v4 + 1) mm19)))))))))))))
set_option maxHeartbeats 4000000 in
set_option maxRecDepth 100000 in
theorem lp_MPainter_toCorner_3 {p : Program} {l : Launch} {e : Env} {s : State} {m : MethodId} {args : Array Value} {below : List Frame} {meth : Method} {c : Code} {D : va_G} {tA : Nat → ClassId} {b n : Nat} {post : Option Value → zV → Nat → Prop} {sh : zSh} (F : zF p s m args meth c zb_MPainter_toCorner 8 "OrreryBoxModel$Painter" D tA b) : ∀ (fuel : Nat) (v0 : Nat) (v1 : Int32) (v2 : Int32) (v3 : Int32) (v4 : Int32) (mm : zMem) (r : Nat × Int32 × Int32 × Int32 × Int32 × zMem), L_MPainter_toCorner_3 sh fuel v0 v1 v2 v3 v4 mm = some r → (Z p l e { frames := 3, cells := 0, slots := 0, locals := 74 } s m args below meth c D b 8 (MQ below (zQ D b post) args s 0 0 (fun q => b ≤ q)) (zW tA b sh r.2.2.2.2.2) n 0 0 53 [(0, .ref (b + (r.1))), (1, .int (r.2.1)), (2, .int (r.2.2.1)), (3, .int (r.2.2.2.1)), (4, .int (r.2.2.2.2.1))] []) → Z p l e { frames := 3, cells := 0, slots := 0, locals := 74 } s m args below meth c D b 8 (MQ below (zQ D b post) args s 0 0 (fun q => b ≤ q)) (zW tA b sh mm) n 0 0 3 [(0, .ref (b + v0)), (1, .int v1), (2, .int v2), (3, .int v3), (4, .int v4)] [] := by
  intro fuel
  induction fuel with
  | zero =>
    intro v0 v1 v2 v3 v4 mm r h
    cases h
  | succ fu ih =>
    intro v0 v1 v2 v3 v4 mm r h hx0
    rw [L_MPainter_toCorner_3] at h
    refine zr_iload F zd_MPainter_toCorner_3 rfl ?_
    refine zr_iconstv (v := 3) F zd_MPainter_toCorner_5 (by decide) ?_
    refine zr_icmp_ge F 53 zd_MPainter_toCorner_6 (by decide) (fun hb1 => ?_) (fun hb1 => ?_)
    ·
      rw [if_pos hb1] at h
      obtain rfl := Option.some.inj h
      refine zr_loc (L' := [(0, .ref (b + v0)), (1, .int v1), (2, .int v2), (3, .int v3), (4, .int v4)]) ⟨rfl, rfl, rfl, rfl, rfl, trivial⟩ ?_
      exact hx0 
    ·
      rw [if_neg hb1] at h
      refine zr_aload_n F zd_MPainter_toCorner_9 rfl ?_
      obtain ⟨le3, hs2, h⟩ := zoS_s h
      obtain ⟨a4, ea4, h⟩ := zoB_s h
      refine zr_get F 13 23 zd_MPainter_toCorner_10 (zW_o hs2 (by decide)) rfl (by decide) zw_1603 rfl (by rfl) ?_
      refine zr_tor ea4 ?_
      refine zr_pcn 13 rfl ?_
      refine zr_bipushv (v := 6) F zd_MPainter_toCorner_13 (by decide) ?_
      refine zr_iload_n F zd_MPainter_toCorner_15 rfl ?_
      refine zr_imul F zd_MPainter_toCorner_16 ?_
      refine zr_iload F zd_MPainter_toCorner_17 rfl ?_
      refine zr_iadd F zd_MPainter_toCorner_19 ?_
      refine zr_aload_n F zd_MPainter_toCorner_20 rfl ?_
      obtain ⟨le6, hs5, h⟩ := zoS_s h
      obtain ⟨a7, ea7, h⟩ := zoB_s h
      refine zr_get F 13 16 zd_MPainter_toCorner_21 (zW_o hs5 (by decide)) rfl (by decide) zw_1596 rfl (by rfl) ?_
      refine zr_tor ea7 ?_
      refine zr_iload F zd_MPainter_toCorner_24 rfl ?_
      refine zr_pcn 26 rfl ?_
      refine zr_aload_n F zd_MPainter_toCorner_26 rfl ?_
      obtain ⟨le9, hs8, h⟩ := zoS_s h
      obtain ⟨a10, ea10, h⟩ := zoB_s h
      refine zr_get F 13 5 zd_MPainter_toCorner_27 (zW_o hs8 (by decide)) rfl (by decide) zw_1581 rfl (by rfl) ?_
      refine zr_tor ea10 ?_
      obtain ⟨le12, hs11, h⟩ := zoS_s h
      obtain ⟨a13, ea13, h⟩ := zoB_s h
      refine zr_get F 15 15 zd_MPainter_toCorner_30 (zW_o hs11 (by decide)) rfl (by decide) zw_1362 rfl (by rfl) ?_
      refine zr_tor ea13 ?_
      refine zr_sipushv (v := 384) F zd_MPainter_toCorner_33 (by decide) ?_
      refine zr_iload_n F zd_MPainter_toCorner_36 rfl ?_
      refine zr_imul F zd_MPainter_toCorner_37 ?_
      refine zr_iconstv (v := 3) F zd_MPainter_toCorner_38 (by decide) ?_
      refine zr_iload_n F zd_MPainter_toCorner_39 rfl ?_
      refine zr_pcn 40 rfl ?_
      refine zr_imul F zd_MPainter_toCorner_40 ?_
      refine zr_iadd F zd_MPainter_toCorner_41 ?_
      refine zr_iconstv (v := 1) F zd_MPainter_toCorner_42 (by decide) ?_
      obtain ⟨p14, ep14, h⟩ := zoB_s h
      refine zr_callS1 F (k_MPainter_applied l D tA b sh _ ep14) zd_MPainter_toCorner_43 zs_MPainter_214 zq_MPainter_applied rfl rfl ⟨(Nat.le_of_ble_eq_true rfl), (Nat.le_of_ble_eq_true rfl)⟩ (Nat.le_of_ble_eq_true rfl) ⟨(Nat.le_of_ble_eq_true rfl), (Nat.le_of_ble_eq_true rfl)⟩ ?_
      obtain ⟨i15, ei15, h⟩ := zoL_s h
      rw [← ei15]
      obtain ⟨le17, hs16, h⟩ := zoS_s h
      obtain ⟨hi18, h⟩ := zoI_s h
      refine zr_last F zd_MPainter_toCorner_46 (zW_a2 hs16) hi18 ?_
      obtain ⟨mm19, emm19, h⟩ := zoL_s h
      refine zr_norm (zW tA b sh mm19) _ (by rw [emm19]; exact zW_s2 hs16) rfl ?_
      refine zr_iinc (v := (v4 + 1)) F zd_MPainter_toCorner_47 rfl rfl (by decide) ?_
      refine zr_goto F 3 zd_MPainter_toCorner_50 (by decide) ?_
      refine zr_loc (L' := [(0, .ref (b + v0)), (1, .int v1), (2, .int v2), (3, .int v3), (4, .int (v4 + 1))]) ⟨rfl, rfl, rfl, rfl, rfl, trivial⟩ ?_
      exact ih _ _ _ _ _ _ _ h hx0
theorem zw_1368 : (Jvm.Cond.fieldLink "OrreryBoxModel$Painter" (218 : Nat) "OrreryBoxModel$Scene" "spot" "[I") ∈ gw := gw_t 1368 (by decide +kernel) rfl
theorem zw_1365 : (Jvm.Cond.fieldLink "OrreryBoxModel$Painter" (221 : Nat) "OrreryBoxModel$Scene" "normal" "[I") ∈ gw := gw_t 1365 (by decide +kernel) rfl
theorem zw_1414 : (Jvm.Cond.fieldLink "OrreryBoxModel$Painter" (224 : Nat) "OrreryBoxModel$Scene" "toward" "[I") ∈ gw := gw_t 1414 (by decide +kernel) rfl
def L_MPainter_toCorner_119 (sh : zSh) (fuel : Nat) (v0 : Nat) (v1 : Int32) (v2 : Int32) (v3 : Int32) (v4 : Int64) (v6 : Int32) (mm : zMem) : Option (Nat × Int32 × Int32 × Int32 × Int64 × Int32 × zMem) := match fuel with
  | 0 => none
  | fu + 1 => (if 3 ≤ v6 then some (v0, v1, v2, v3, v4, v6, mm) else zoS (sh v0) 13 (fun le61 => Option.bind (mm.2.2 v0 14) (fun a62 => zoS (sh v0) 13 (fun le64 => Option.bind (mm.2.2 v0 5) (fun a65 => zoS (sh a65) 15 (fun le67 => Option.bind (mm.2.2 a65 16) (fun a68 => Option.bind (F_MPainter_applied sh mm a62 v6 a68 ((384 * v1) + (3 * v3)) 0) (fun p69 => zoS (sh v0) 13 (fun le71 => Option.bind ((p69.2).2.2 v0 5) (fun a72 => zoS (sh a72) 15 (fun le74 => Option.bind ((p69.2).2.2 a72 33) (fun a75 => zoS (sh a75) 100 (fun le77 => if (v6 : Int32) < 0 ∨ le77 ≤ (v6 : Int32).toNatClampNeg then none else zoL ((((p69.2).1 a75 (v6 : Int32).toNatClampNeg) : Int32).toInt64) (fun x79 => zoL (v4 + (sp_MPainter_mul (p69.1) x79)) (fun x81 => L_MPainter_toCorner_119 sh fu v0 v1 v2 v3 x81 (v6 + 1) (p69.2))))))))))))))))
set_option maxHeartbeats 4000000 in
set_option maxRecDepth 100000 in
theorem lp_MPainter_toCorner_119 {p : Program} {l : Launch} {e : Env} {s : State} {m : MethodId} {args : Array Value} {below : List Frame} {meth : Method} {c : Code} {D : va_G} {tA : Nat → ClassId} {b n : Nat} {post : Option Value → zV → Nat → Prop} {sh : zSh} (F : zF p s m args meth c zb_MPainter_toCorner 8 "OrreryBoxModel$Painter" D tA b) : ∀ (fuel : Nat) (v0 : Nat) (v1 : Int32) (v2 : Int32) (v3 : Int32) (v4 : Int64) (v6 : Int32) (mm : zMem) (r : Nat × Int32 × Int32 × Int32 × Int64 × Int32 × zMem), L_MPainter_toCorner_119 sh fuel v0 v1 v2 v3 v4 v6 mm = some r → (Z p l e { frames := 3, cells := 0, slots := 0, locals := 74 } s m args below meth c D b 8 (MQ below (zQ D b post) args s 0 0 (fun q => b ≤ q)) (zW tA b sh r.2.2.2.2.2.2) n 0 0 176 [(0, .ref (b + (r.1))), (1, .int (r.2.1)), (2, .int (r.2.2.1)), (3, .int (r.2.2.2.1)), (4, .long (r.2.2.2.2.1)), (6, .int (r.2.2.2.2.2.1))] []) → Z p l e { frames := 3, cells := 0, slots := 0, locals := 74 } s m args below meth c D b 8 (MQ below (zQ D b post) args s 0 0 (fun q => b ≤ q)) (zW tA b sh mm) n 0 0 119 [(0, .ref (b + v0)), (1, .int v1), (2, .int v2), (3, .int v3), (4, .long v4), (6, .int v6)] [] := by
  intro fuel
  induction fuel with
  | zero =>
    intro v0 v1 v2 v3 v4 v6 mm r h
    cases h
  | succ fu ih =>
    intro v0 v1 v2 v3 v4 v6 mm r h hx0
    rw [L_MPainter_toCorner_119] at h
    refine zr_iload F zd_MPainter_toCorner_119 rfl ?_
    refine zr_iconstv (v := 3) F zd_MPainter_toCorner_121 (by decide) ?_
    refine zr_icmp_ge F 176 zd_MPainter_toCorner_122 (by decide) (fun hb59 => ?_) (fun hb59 => ?_)
    ·
      rw [if_pos hb59] at h
      obtain rfl := Option.some.inj h
      refine zr_loc (L' := [(0, .ref (b + v0)), (1, .int v1), (2, .int v2), (3, .int v3), (4, .long v4), (6, .int v6)]) ⟨rfl, rfl, rfl, rfl, rfl, rfl, trivial⟩ ?_
      exact hx0 
    ·
      rw [if_neg hb59] at h
      refine zr_pcn 125 rfl ?_
      refine zr_lload F zd_MPainter_toCorner_125 rfl ?_
      refine zr_aload_n F zd_MPainter_toCorner_127 rfl ?_
      obtain ⟨le61, hs60, h⟩ := zoS_s h
      obtain ⟨a62, ea62, h⟩ := zoB_s h
      refine zr_get F 13 14 zd_MPainter_toCorner_128 (zW_o hs60 (by decide)) rfl (by decide) zw_1593 rfl (by rfl) ?_
      refine zr_tor ea62 ?_
      refine zr_iload F zd_MPainter_toCorner_131 rfl ?_
      refine zr_aload_n F zd_MPainter_toCorner_133 rfl ?_
      obtain ⟨le64, hs63, h⟩ := zoS_s h
      obtain ⟨a65, ea65, h⟩ := zoB_s h
      refine zr_get F 13 5 zd_MPainter_toCorner_134 (zW_o hs63 (by decide)) rfl (by decide) zw_1581 rfl (by rfl) ?_
      refine zr_tor ea65 ?_
      obtain ⟨le67, hs66, h⟩ := zoS_s h
      obtain ⟨a68, ea68, h⟩ := zoB_s h
      refine zr_get F 15 16 zd_MPainter_toCorner_137 (zW_o hs66 (by decide)) rfl (by decide) zw_1365 rfl (by rfl) ?_
      refine zr_tor ea68 ?_
      refine zr_sipushv (v := 384) F zd_MPainter_toCorner_140 (by decide) ?_
      refine zr_pcn 143 rfl ?_
      refine zr_iload_n F zd_MPainter_toCorner_143 rfl ?_
      refine zr_imul F zd_MPainter_toCorner_144 ?_
      refine zr_iconstv (v := 3) F zd_MPainter_toCorner_145 (by decide) ?_
      refine zr_iload_n F zd_MPainter_toCorner_146 rfl ?_
      refine zr_imul F zd_MPainter_toCorner_147 ?_
      refine zr_iadd F zd_MPainter_toCorner_148 ?_
      refine zr_iconstv (v := 0) F zd_MPainter_toCorner_149 (by decide) ?_
      obtain ⟨p69, ep69, h⟩ := zoB_s h
      refine zr_callS1 F (k_MPainter_applied l D tA b sh _ ep69) zd_MPainter_toCorner_150 zs_MPainter_214 zq_MPainter_applied rfl rfl ⟨(Nat.le_of_ble_eq_true rfl), (Nat.le_of_ble_eq_true rfl)⟩ (Nat.le_of_ble_eq_true rfl) ⟨(Nat.le_of_ble_eq_true rfl), (Nat.le_of_ble_eq_true rfl)⟩ ?_
      refine zr_pcn 153 rfl ?_
      refine zr_aload_n F zd_MPainter_toCorner_153 rfl ?_
      obtain ⟨le71, hs70, h⟩ := zoS_s h
      obtain ⟨a72, ea72, h⟩ := zoB_s h
      refine zr_get F 13 5 zd_MPainter_toCorner_154 (zW_o hs70 (by decide)) rfl (by decide) zw_1581 rfl (by rfl) ?_
      refine zr_tor ea72 ?_
      obtain ⟨le74, hs73, h⟩ := zoS_s h
      obtain ⟨a75, ea75, h⟩ := zoB_s h
      refine zr_get F 15 33 zd_MPainter_toCorner_157 (zW_o hs73 (by decide)) rfl (by decide) zw_1414 rfl (by rfl) ?_
      refine zr_tor ea75 ?_
      refine zr_iload F zd_MPainter_toCorner_160 rfl ?_
      obtain ⟨le77, hs76, h⟩ := zoS_s h
      obtain ⟨hi78, h⟩ := zoI_s h
      refine zr_iald F zd_MPainter_toCorner_162 (zW_a0 hs76) hi78 ?_
      refine zr_i2l F zd_MPainter_toCorner_163 ?_
      obtain ⟨x79, ex79, h⟩ := zoL_s h
      rw [← ex79]
      refine zr_callS1 F (c_MPainter_mul l D tA b _ _ (p69.1) x79) zd_MPainter_toCorner_164 zs_MPainter_108 zq_MPainter_mul rfl rfl ⟨(Nat.le_of_ble_eq_true rfl), (Nat.le_of_ble_eq_true rfl)⟩ (Nat.le_of_ble_eq_true rfl) ⟨(Nat.le_of_ble_eq_true rfl), (Nat.le_of_ble_eq_true rfl)⟩ ?_
      refine zr_ladd F zd_MPainter_toCorner_167 ?_
      refine zr_pcn 168 rfl ?_
      obtain ⟨x81, ex81, h⟩ := zoL_s h
      rw [← ex81]
      refine zr_lstore F zd_MPainter_toCorner_168 (by decide) ?_
      refine zr_iinc (v := (v6 + 1)) F zd_MPainter_toCorner_170 rfl rfl (by decide) ?_
      refine zr_goto F 119 zd_MPainter_toCorner_173 (by decide) ?_
      refine zr_loc (L' := [(0, .ref (b + v0)), (1, .int v1), (2, .int v2), (3, .int v3), (4, .long x81), (6, .int (v6 + 1))]) ⟨rfl, rfl, rfl, rfl, rfl, rfl, trivial⟩ ?_
      exact ih _ _ _ _ _ _ _ _ h hx0
theorem zw_1422 : (Jvm.Cond.fieldLink "OrreryBoxModel$Painter" (227 : Nat) "OrreryBoxModel$Scene" "ambient" "I") ∈ gw := gw_t 1422 (by decide +kernel) rfl
def F_MPainter_toCorner (sh : zSh) (mm : zMem) (o : Nat) (x0_ : Int32) (x1_ : Int32) (x2_ : Int32) : Option zMem := Option.bind (L_MPainter_toCorner_3 sh zfuel o x0_ x1_ x2_ 0 mm) (fun q20 => zoS (sh (q20.1)) 13 (fun le22 => Option.bind ((q20.2.2.2.2.2).2.2 (q20.1) 23) (fun a23 => zoS (sh (q20.1)) 13 (fun le25 => Option.bind ((q20.2.2.2.2.2).2.2 (q20.1) 5) (fun a26 => zoS (sh a26) 15 (fun le28 => Option.bind ((q20.2.2.2.2.2).2.2 a26 17) (fun a29 => zoL ((256 * q20.2.1) + (2 * q20.2.2.2.1)) (fun i30 => zoS (sh a29) 100 (fun le32 => if (i30 : Int32) < 0 ∨ le32 ≤ (i30 : Int32).toNatClampNeg then none else zoL ((((q20.2.2.2.2.2).1 a29 (i30 : Int32).toNatClampNeg) : Int32).toInt64) (fun x34 => zoL ((6 * q20.2.2.1) + 3) (fun i35 => zoS (sh a23) 102 (fun le37 => if (i35 : Int32) < 0 ∨ le37 ≤ (i35 : Int32).toNatClampNeg then none else zoL (mL (q20.2.2.2.2.2) a23 (i35 : Int32).toNatClampNeg x34) (fun mm39 => zoS (sh (q20.1)) 13 (fun le41 => Option.bind (mm39.2.2 (q20.1) 23) (fun a42 => zoS (sh (q20.1)) 13 (fun le44 => Option.bind (mm39.2.2 (q20.1) 5) (fun a45 => zoS (sh a45) 15 (fun le47 => Option.bind (mm39.2.2 a45 17) (fun a48 => zoL (((256 * q20.2.1) + (2 * q20.2.2.2.1)) + 1) (fun i49 => zoS (sh a48) 100 (fun le51 => if (i49 : Int32) < 0 ∨ le51 ≤ (i49 : Int32).toNatClampNeg then none else zoL (((mm39.1 a48 (i49 : Int32).toNatClampNeg) : Int32).toInt64) (fun x53 => zoL ((6 * q20.2.2.1) + 4) (fun i54 => zoS (sh a42) 102 (fun le56 => if (i54 : Int32) < 0 ∨ le56 ≤ (i54 : Int32).toNatClampNeg then none else zoL (mL mm39 a42 (i54 : Int32).toNatClampNeg x53) (fun mm58 => Option.bind (L_MPainter_toCorner_119 sh zfuel (q20.1) (q20.2.1) (q20.2.2.1) (q20.2.2.2.1) 0 0 mm58) (fun q82 => zoS (sh (q82.1)) 13 (fun le84 => Option.bind ((q82.2.2.2.2.2.2).2.2 (q82.1) 5) (fun a85 => zoS (sh a85) 15 (fun le87 => (if (lg_cmp q82.2.2.2.2.1 0) ≤ 0 then zoL (((((q82.2.2.2.2.2.2).1 a85 35) : Int32).toInt64) + 0) (fun x89 => zoS (sh (q82.1)) 13 (fun le91 => Option.bind ((q82.2.2.2.2.2.2).2.2 (q82.1) 23) (fun a92 => (if 0 ≤ (lg_cmp x89 65536) then zoL ((6 * q82.2.2.1) + 5) (fun i94 => zoS (sh a92) 102 (fun le96 => if (i94 : Int32) < 0 ∨ le96 ≤ (i94 : Int32).toNatClampNeg then none else zoL (mL (q82.2.2.2.2.2.2) a92 (i94 : Int32).toNatClampNeg 65536) (fun mm98 => some mm98))) else zoL ((6 * q82.2.2.1) + 5) (fun i99 => zoS (sh a92) 102 (fun le101 => if (i99 : Int32) < 0 ∨ le101 ≤ (i99 : Int32).toNatClampNeg then none else zoL (mL (q82.2.2.2.2.2.2) a92 (i99 : Int32).toNatClampNeg x89) (fun mm103 => some mm103))))))) else zoL (((((q82.2.2.2.2.2.2).1 a85 35) : Int32).toInt64) + q82.2.2.2.2.1) (fun x104 => zoS (sh (q82.1)) 13 (fun le106 => Option.bind ((q82.2.2.2.2.2.2).2.2 (q82.1) 23) (fun a107 => (if 0 ≤ (lg_cmp x104 65536) then zoL ((6 * q82.2.2.1) + 5) (fun i109 => zoS (sh a107) 102 (fun le111 => if (i109 : Int32) < 0 ∨ le111 ≤ (i109 : Int32).toNatClampNeg then none else zoL (mL (q82.2.2.2.2.2.2) a107 (i109 : Int32).toNatClampNeg 65536) (fun mm113 => some mm113))) else zoL ((6 * q82.2.2.1) + 5) (fun i114 => zoS (sh a107) 102 (fun le116 => if (i114 : Int32) < 0 ∨ le116 ≤ (i114 : Int32).toNatClampNeg then none else zoL (mL (q82.2.2.2.2.2.2) a107 (i114 : Int32).toNatClampNeg x104) (fun mm118 => some mm118)))))))))))))))))))))))))))))))))))))
set_option maxHeartbeats 4000000 in
set_option maxRecDepth 100000 in
theorem k_MPainter_toCorner (l : Launch) (D : va_G) (tA : Nat → ClassId) (b : Nat) (sh : zSh) (n : Nat) {mm : zMem} {o : Nat} {x0_ : Int32} {x1_ : Int32} {x2_ : Int32} {r : zMem} (h : F_MPainter_toCorner sh mm o x0_ x1_ x2_ = some r) : zM l D tA b zy_MPainter_toCorner zb_MPainter_toCorner 8 none 3 74 0 0 [.ref (b + o), .int x0_, .int x1_, .int x2_] (zW tA b sh mm) n (zE none (zW tA b sh r) n) := by
  unfold F_MPainter_toCorner at h
  refine zM_of (own := "OrreryBoxModel$Painter") (plainFor_of_name (by decide)) rfl (Nat.le_of_ble_eq_true rfl) (fun p e s m below meth c F hr hin hH => ?_)
  refine zr_iconstv (v := 0) F zd_MPainter_toCorner_0 (by decide) ?_
  refine zr_istore F zd_MPainter_toCorner_1 (by decide) ?_
  obtain ⟨q20, eq20, h⟩ := zoB_s h
  refine zr_loc (L' := [(0, .ref (b + o)), (1, .int x0_), (2, .int x1_), (3, .int x2_), (4, .int 0)]) ⟨rfl, rfl, rfl, rfl, rfl, trivial⟩ ?_
  refine lp_MPainter_toCorner_3 F _ _ _ _ _ _ _ _ eq20 ?_
  ·
    refine zr_aload_n F zd_MPainter_toCorner_53 rfl ?_
    refine zr_pcn 54 rfl ?_
    obtain ⟨le22, hs21, h⟩ := zoS_s h
    obtain ⟨a23, ea23, h⟩ := zoB_s h
    refine zr_get F 13 23 zd_MPainter_toCorner_54 (zW_o hs21 (by decide)) rfl (by decide) zw_1603 rfl (by rfl) ?_
    refine zr_tor ea23 ?_
    refine zr_bipushv (v := 6) F zd_MPainter_toCorner_57 (by decide) ?_
    refine zr_iload_n F zd_MPainter_toCorner_59 rfl ?_
    refine zr_imul F zd_MPainter_toCorner_60 ?_
    refine zr_iconstv (v := 3) F zd_MPainter_toCorner_61 (by decide) ?_
    refine zr_iadd F zd_MPainter_toCorner_62 ?_
    refine zr_aload_n F zd_MPainter_toCorner_63 rfl ?_
    obtain ⟨le25, hs24, h⟩ := zoS_s h
    obtain ⟨a26, ea26, h⟩ := zoB_s h
    refine zr_get F 13 5 zd_MPainter_toCorner_64 (zW_o hs24 (by decide)) rfl (by decide) zw_1581 rfl (by rfl) ?_
    refine zr_tor ea26 ?_
    refine zr_pcn 67 rfl ?_
    obtain ⟨le28, hs27, h⟩ := zoS_s h
    obtain ⟨a29, ea29, h⟩ := zoB_s h
    refine zr_get F 15 17 zd_MPainter_toCorner_67 (zW_o hs27 (by decide)) rfl (by decide) zw_1368 rfl (by rfl) ?_
    refine zr_tor ea29 ?_
    refine zr_sipushv (v := 256) F zd_MPainter_toCorner_70 (by decide) ?_
    refine zr_iload_n F zd_MPainter_toCorner_73 rfl ?_
    refine zr_imul F zd_MPainter_toCorner_74 ?_
    refine zr_iconstv (v := 2) F zd_MPainter_toCorner_75 (by decide) ?_
    refine zr_iload_n F zd_MPainter_toCorner_76 rfl ?_
    refine zr_imul F zd_MPainter_toCorner_77 ?_
    refine zr_iadd F zd_MPainter_toCorner_78 ?_
    refine zr_pcn 79 rfl ?_
    obtain ⟨i30, ei30, h⟩ := zoL_s h
    rw [← ei30]
    obtain ⟨le32, hs31, h⟩ := zoS_s h
    obtain ⟨hi33, h⟩ := zoI_s h
    refine zr_iald F zd_MPainter_toCorner_79 (zW_a0 hs31) hi33 ?_
    refine zr_i2l F zd_MPainter_toCorner_80 ?_
    obtain ⟨x34, ex34, h⟩ := zoL_s h
    rw [← ex34]
    obtain ⟨i35, ei35, h⟩ := zoL_s h
    rw [← ei35]
    obtain ⟨le37, hs36, h⟩ := zoS_s h
    obtain ⟨hi38, h⟩ := zoI_s h
    refine zr_last F zd_MPainter_toCorner_81 (zW_a2 hs36) hi38 ?_
    obtain ⟨mm39, emm39, h⟩ := zoL_s h
    refine zr_norm (zW tA b sh mm39) _ (by rw [emm39]; exact zW_s2 hs36) rfl ?_
    refine zr_aload_n F zd_MPainter_toCorner_82 rfl ?_
    obtain ⟨le41, hs40, h⟩ := zoS_s h
    obtain ⟨a42, ea42, h⟩ := zoB_s h
    refine zr_get F 13 23 zd_MPainter_toCorner_83 (zW_o hs40 (by decide)) rfl (by decide) zw_1603 rfl (by rfl) ?_
    refine zr_tor ea42 ?_
    refine zr_bipushv (v := 6) F zd_MPainter_toCorner_86 (by decide) ?_
    refine zr_iload_n F zd_MPainter_toCorner_88 rfl ?_
    refine zr_imul F zd_MPainter_toCorner_89 ?_
    refine zr_pcn 90 rfl ?_
    refine zr_iconstv (v := 4) F zd_MPainter_toCorner_90 (by decide) ?_
    refine zr_iadd F zd_MPainter_toCorner_91 ?_
    refine zr_aload_n F zd_MPainter_toCorner_92 rfl ?_
    obtain ⟨le44, hs43, h⟩ := zoS_s h
    obtain ⟨a45, ea45, h⟩ := zoB_s h
    refine zr_get F 13 5 zd_MPainter_toCorner_93 (zW_o hs43 (by decide)) rfl (by decide) zw_1581 rfl (by rfl) ?_
    refine zr_tor ea45 ?_
    obtain ⟨le47, hs46, h⟩ := zoS_s h
    obtain ⟨a48, ea48, h⟩ := zoB_s h
    refine zr_get F 15 17 zd_MPainter_toCorner_96 (zW_o hs46 (by decide)) rfl (by decide) zw_1368 rfl (by rfl) ?_
    refine zr_tor ea48 ?_
    refine zr_sipushv (v := 256) F zd_MPainter_toCorner_99 (by decide) ?_
    refine zr_iload_n F zd_MPainter_toCorner_102 rfl ?_
    refine zr_imul F zd_MPainter_toCorner_103 ?_
    refine zr_pcn 104 rfl ?_
    refine zr_iconstv (v := 2) F zd_MPainter_toCorner_104 (by decide) ?_
    refine zr_iload_n F zd_MPainter_toCorner_105 rfl ?_
    refine zr_imul F zd_MPainter_toCorner_106 ?_
    refine zr_iadd F zd_MPainter_toCorner_107 ?_
    refine zr_iconstv (v := 1) F zd_MPainter_toCorner_108 (by decide) ?_
    refine zr_iadd F zd_MPainter_toCorner_109 ?_
    obtain ⟨i49, ei49, h⟩ := zoL_s h
    rw [← ei49]
    obtain ⟨le51, hs50, h⟩ := zoS_s h
    obtain ⟨hi52, h⟩ := zoI_s h
    refine zr_iald F zd_MPainter_toCorner_110 (zW_a0 hs50) hi52 ?_
    refine zr_i2l F zd_MPainter_toCorner_111 ?_
    refine zr_pcn 112 rfl ?_
    obtain ⟨x53, ex53, h⟩ := zoL_s h
    rw [← ex53]
    obtain ⟨i54, ei54, h⟩ := zoL_s h
    rw [← ei54]
    obtain ⟨le56, hs55, h⟩ := zoS_s h
    obtain ⟨hi57, h⟩ := zoI_s h
    refine zr_last F zd_MPainter_toCorner_112 (zW_a2 hs55) hi57 ?_
    obtain ⟨mm58, emm58, h⟩ := zoL_s h
    refine zr_norm (zW tA b sh mm58) _ (by rw [emm58]; exact zW_s2 hs55) rfl ?_
    refine zr_lconstv (v := 0) F zd_MPainter_toCorner_113 (by decide) ?_
    refine zr_lstore F zd_MPainter_toCorner_114 (by decide) ?_
    refine zr_iconstv (v := 0) F zd_MPainter_toCorner_116 (by decide) ?_
    refine zr_istore F zd_MPainter_toCorner_117 (by decide) ?_
    obtain ⟨q82, eq82, h⟩ := zoB_s h
    refine zr_loc (L' := [(0, .ref (b + (q20.1))), (1, .int (q20.2.1)), (2, .int (q20.2.2.1)), (3, .int (q20.2.2.2.1)), (4, .long 0), (6, .int 0)]) ⟨rfl, rfl, rfl, rfl, rfl, rfl, trivial⟩ ?_
    refine lp_MPainter_toCorner_119 F _ _ _ _ _ _ _ _ _ eq82 ?_
    ·
      refine zr_aload_n F zd_MPainter_toCorner_176 rfl ?_
      obtain ⟨le84, hs83, h⟩ := zoS_s h
      obtain ⟨a85, ea85, h⟩ := zoB_s h
      refine zr_get F 13 5 zd_MPainter_toCorner_177 (zW_o hs83 (by decide)) rfl (by decide) zw_1581 rfl (by rfl) ?_
      refine zr_tor ea85 ?_
      obtain ⟨le87, hs86, h⟩ := zoS_s h
      refine zr_get F 15 35 zd_MPainter_toCorner_180 (zW_o hs86 (by decide)) rfl (by decide) zw_1422 rfl (by rfl) ?_
      refine zr_i2l F zd_MPainter_toCorner_183 ?_
      refine zr_lload F zd_MPainter_toCorner_184 rfl ?_
      refine zr_pcn 186 rfl ?_
      refine zr_lconstv (v := 0) F zd_MPainter_toCorner_186 (by decide) ?_
      refine zr_lcmp F zd_MPainter_toCorner_187 ?_
      refine zr_if_le F 196 zd_MPainter_toCorner_188 (by decide) (fun hb88 => ?_) (fun hb88 => ?_)
      ·
        rw [if_pos hb88] at h
        refine zr_lconstv (v := 0) F zd_MPainter_toCorner_196 (by decide) ?_
        refine zr_ladd F zd_MPainter_toCorner_197 ?_
        obtain ⟨x89, ex89, h⟩ := zoL_s h
        rw [← ex89]
        refine zr_lstore F zd_MPainter_toCorner_198 (by decide) ?_
        refine zr_aload_n F zd_MPainter_toCorner_200 rfl ?_
        obtain ⟨le91, hs90, h⟩ := zoS_s h
        obtain ⟨a92, ea92, h⟩ := zoB_s h
        refine zr_get F 13 23 zd_MPainter_toCorner_201 (zW_o hs90 (by decide)) rfl (by decide) zw_1603 rfl (by rfl) ?_
        refine zr_tor ea92 ?_
        refine zr_pcn 204 rfl ?_
        refine zr_bipushv (v := 6) F zd_MPainter_toCorner_204 (by decide) ?_
        refine zr_iload_n F zd_MPainter_toCorner_206 rfl ?_
        refine zr_imul F zd_MPainter_toCorner_207 ?_
        refine zr_iconstv (v := 5) F zd_MPainter_toCorner_208 (by decide) ?_
        refine zr_iadd F zd_MPainter_toCorner_209 ?_
        refine zr_lload F zd_MPainter_toCorner_210 rfl ?_
        refine zr_ldc2 F zd_MPainter_toCorner_212 zw_1952 ?_
        refine zr_lcmp F zd_MPainter_toCorner_215 ?_
        refine zr_pcn 216 rfl ?_
        refine zr_if_ge F 224 zd_MPainter_toCorner_216 (by decide) (fun hb93 => ?_) (fun hb93 => ?_)
        ·
          rw [if_pos hb93] at h
          refine zr_ldc2 F zd_MPainter_toCorner_224 zw_1952 ?_
          obtain ⟨i94, ei94, h⟩ := zoL_s h
          rw [← ei94]
          obtain ⟨le96, hs95, h⟩ := zoS_s h
          obtain ⟨hi97, h⟩ := zoI_s h
          refine zr_last F zd_MPainter_toCorner_227 (zW_a2 hs95) hi97 ?_
          obtain ⟨mm98, emm98, h⟩ := zoL_s h
          refine zr_norm (zW tA b sh mm98) _ (by rw [emm98]; exact zW_s2 hs95) rfl ?_
          obtain rfl := Option.some.inj h
          exact zr_vret F hr zd_MPainter_toCorner_228 (Nat.le_of_ble_eq_true rfl) (Nat.le_of_ble_eq_true rfl) ⟨rfl, rfl, rfl⟩
        ·
          rw [if_neg hb93] at h
          refine zr_lload F zd_MPainter_toCorner_219 rfl ?_
          refine zr_goto F 227 zd_MPainter_toCorner_221 (by decide) ?_
          obtain ⟨i99, ei99, h⟩ := zoL_s h
          rw [← ei99]
          obtain ⟨le101, hs100, h⟩ := zoS_s h
          obtain ⟨hi102, h⟩ := zoI_s h
          refine zr_last F zd_MPainter_toCorner_227 (zW_a2 hs100) hi102 ?_
          obtain ⟨mm103, emm103, h⟩ := zoL_s h
          refine zr_norm (zW tA b sh mm103) _ (by rw [emm103]; exact zW_s2 hs100) rfl ?_
          obtain rfl := Option.some.inj h
          exact zr_vret F hr zd_MPainter_toCorner_228 (Nat.le_of_ble_eq_true rfl) (Nat.le_of_ble_eq_true rfl) ⟨rfl, rfl, rfl⟩
      ·
        rw [if_neg hb88] at h
        refine zr_pcn 191 rfl ?_
        refine zr_lload F zd_MPainter_toCorner_191 rfl ?_
        refine zr_goto F 197 zd_MPainter_toCorner_193 (by decide) ?_
        refine zr_ladd F zd_MPainter_toCorner_197 ?_
        obtain ⟨x104, ex104, h⟩ := zoL_s h
        rw [← ex104]
        refine zr_lstore F zd_MPainter_toCorner_198 (by decide) ?_
        refine zr_aload_n F zd_MPainter_toCorner_200 rfl ?_
        obtain ⟨le106, hs105, h⟩ := zoS_s h
        obtain ⟨a107, ea107, h⟩ := zoB_s h
        refine zr_get F 13 23 zd_MPainter_toCorner_201 (zW_o hs105 (by decide)) rfl (by decide) zw_1603 rfl (by rfl) ?_
        refine zr_tor ea107 ?_
        refine zr_bipushv (v := 6) F zd_MPainter_toCorner_204 (by decide) ?_
        refine zr_iload_n F zd_MPainter_toCorner_206 rfl ?_
        refine zr_pcn 207 rfl ?_
        refine zr_imul F zd_MPainter_toCorner_207 ?_
        refine zr_iconstv (v := 5) F zd_MPainter_toCorner_208 (by decide) ?_
        refine zr_iadd F zd_MPainter_toCorner_209 ?_
        refine zr_lload F zd_MPainter_toCorner_210 rfl ?_
        refine zr_ldc2 F zd_MPainter_toCorner_212 zw_1952 ?_
        refine zr_lcmp F zd_MPainter_toCorner_215 ?_
        refine zr_if_ge F 224 zd_MPainter_toCorner_216 (by decide) (fun hb108 => ?_) (fun hb108 => ?_)
        ·
          rw [if_pos hb108] at h
          refine zr_ldc2 F zd_MPainter_toCorner_224 zw_1952 ?_
          refine zr_pcn 227 rfl ?_
          obtain ⟨i109, ei109, h⟩ := zoL_s h
          rw [← ei109]
          obtain ⟨le111, hs110, h⟩ := zoS_s h
          obtain ⟨hi112, h⟩ := zoI_s h
          refine zr_last F zd_MPainter_toCorner_227 (zW_a2 hs110) hi112 ?_
          obtain ⟨mm113, emm113, h⟩ := zoL_s h
          refine zr_norm (zW tA b sh mm113) _ (by rw [emm113]; exact zW_s2 hs110) rfl ?_
          obtain rfl := Option.some.inj h
          exact zr_vret F hr zd_MPainter_toCorner_228 (Nat.le_of_ble_eq_true rfl) (Nat.le_of_ble_eq_true rfl) ⟨rfl, rfl, rfl⟩
        ·
          rw [if_neg hb108] at h
          refine zr_lload F zd_MPainter_toCorner_219 rfl ?_
          refine zr_goto F 227 zd_MPainter_toCorner_221 (by decide) ?_
          obtain ⟨i114, ei114, h⟩ := zoL_s h
          rw [← ei114]
          obtain ⟨le116, hs115, h⟩ := zoS_s h
          obtain ⟨hi117, h⟩ := zoI_s h
          refine zr_last F zd_MPainter_toCorner_227 (zW_a2 hs115) hi117 ?_
          obtain ⟨mm118, emm118, h⟩ := zoL_s h
          refine zr_norm (zW tA b sh mm118) _ (by rw [emm118]; exact zW_s2 hs115) rfl ?_
          obtain rfl := Option.some.inj h
          exact zr_vret F hr zd_MPainter_toCorner_228 (Nat.le_of_ble_eq_true rfl) (Nat.le_of_ble_eq_true rfl) ⟨rfl, rfl, rfl⟩
