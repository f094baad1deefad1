set_option maxHeartbeats 4000000 in
set_option maxRecDepth 100000 in
theorem e_MReader_byteAt (l : Launch) (D : va_G) (tA : Nat → ClassId) (b : Nat) (f : zV) (n : Nat) (na : Int32) (nu : Int32) (ii : Int32) (ls : Int32) (pt : Int32) (wr : Int32) (wa : Int32) (hf : f 1277 = some (.inr (14, [.ref (b + 1186), .ref (b + 1217), .int 0, .int 0, .int wr, .int wa, .int na, .int nu, .int ii, .int ls, .int pt])))  : zM l D tA b zy_MReader_byteAt zb_MReader_byteAt 2 (some .int) 0 0 0 0 [.ref (b + 1277), .int 0] f n (zE (some (.int (-1))) f n) := by
  refine zM_of (own := "OrreryBoxModel$Reader") (plainFor_of_name (by decide)) rfl (Nat.le_of_ble_eq_true rfl) (fun p e s m below meth c F hr hin hH => ?_)
  refine zr_iload_n F zd_MReader_byteAt_0 rfl ?_
  refine zr_aload_n F zd_MReader_byteAt_1 rfl ?_
  refine zr_get F 14 2 zd_MReader_byteAt_2 hf rfl (by decide) zw_1506 rfl (by rfl) ?_
  refine zr_icmp_ge F 21 zd_MReader_byteAt_5 (by decide) (fun _ => ?_) (fun h => absurd h (by decide))
  refine zr_iconstv (v := (-1)) F zd_MReader_byteAt_21 (by decide) ?_
  exact zr_iret F hr zd_MReader_byteAt_22 (Nat.le_of_ble_eq_true rfl) (Nat.le_of_ble_eq_true rfl) ⟨rfl, rfl, rfl⟩
abbrev zb_MReader_next : ByteArray := prog_17_method_4_code
def zy_MReader_next : MethodName := ⟨"OrreryBoxModel$Reader", "next", "()I"⟩
theorem zc_MReader_next : Cond.code zy_MReader_next zb_MReader_next 1 (some .int) ∈ gw := gw_t 1772 (by decide +kernel) rfl
theorem zq_MReader_next : zy_MReader_next.cls ≠ "java/lang/invoke/MethodHandle" ∧ zy_MReader_next.cls ≠ "java/lang/invoke/VarHandle" ∧ (parseMethodDescriptor zy_MReader_next.desc).map (fun d => d.parameters.length) = some 0 := by decide +kernel
theorem zd_MReader_next_0 : decode zb_MReader_next 0 = .ok (.aload_n 0, 1) := by decide +kernel
theorem zd_MReader_next_1 : decode zb_MReader_next 1 = .ok (.aload_n 0, 1) := by decide +kernel
theorem zd_MReader_next_2 : decode zb_MReader_next 2 = .ok (.getfield 27, 3) := by decide +kernel
theorem zd_MReader_next_5 : decode zb_MReader_next 5 = .ok (.invokevirtual 30, 3) := by decide +kernel
theorem zd_MReader_next_8 : decode zb_MReader_next 8 = .ok (.bipush 32, 2) := by decide +kernel
theorem zd_MReader_next_10 : decode zb_MReader_next 10 = .ok (.if_icmp .eq 42, 3) := by decide +kernel
theorem zd_MReader_next_13 : decode zb_MReader_next 13 = .ok (.aload_n 0, 1) := by decide +kernel
theorem zd_MReader_next_14 : decode zb_MReader_next 14 = .ok (.aload_n 0, 1) := by decide +kernel
theorem zd_MReader_next_15 : decode zb_MReader_next 15 = .ok (.getfield 27, 3) := by decide +kernel
theorem zd_MReader_next_18 : decode zb_MReader_next 18 = .ok (.invokevirtual 30, 3) := by decide +kernel
theorem zd_MReader_next_21 : decode zb_MReader_next 21 = .ok (.bipush 10, 2) := by decide +kernel
theorem zd_MReader_next_23 : decode zb_MReader_next 23 = .ok (.if_icmp .eq 29, 3) := by decide +kernel
theorem zd_MReader_next_26 : decode zb_MReader_next 26 = .ok (.aload_n 0, 1) := by decide +kernel
theorem zd_MReader_next_27 : decode zb_MReader_next 27 = .ok (.aload_n 0, 1) := by decide +kernel
theorem zd_MReader_next_28 : decode zb_MReader_next 28 = .ok (.getfield 27, 3) := by decide +kernel
theorem zd_MReader_next_31 : decode zb_MReader_next 31 = .ok (.invokevirtual 30, 3) := by decide +kernel
theorem zd_MReader_next_34 : decode zb_MReader_next 34 = .ok (.bipush 13, 2) := by decide +kernel
theorem zd_MReader_next_36 : decode zb_MReader_next 36 = .ok (.if_icmp .eq 16, 3) := by decide +kernel
theorem zd_MReader_next_39 : decode zb_MReader_next 39 = .ok (.aload_n 0, 1) := by decide +kernel
theorem zd_MReader_next_40 : decode zb_MReader_next 40 = .ok (.aload_n 0, 1) := by decide +kernel
theorem zd_MReader_next_41 : decode zb_MReader_next 41 = .ok (.getfield 27, 3) := by decide +kernel
theorem zd_MReader_next_44 : decode zb_MReader_next 44 = .ok (.invokevirtual 30, 3) := by decide +kernel
theorem zd_MReader_next_47 : decode zb_MReader_next 47 = .ok (.bipush 9, 2) := by decide +kernel
theorem zd_MReader_next_49 : decode zb_MReader_next 49 = .ok (.if_icmp .ne 16, 3) := by decide +kernel
theorem zd_MReader_next_52 : decode zb_MReader_next 52 = .ok (.aload_n 0, 1) := by decide +kernel
theorem zd_MReader_next_53 : decode zb_MReader_next 53 = .ok (.dup, 1) := by decide +kernel
theorem zd_MReader_next_54 : decode zb_MReader_next 54 = .ok (.getfield 27, 3) := by decide +kernel
theorem zd_MReader_next_57 : decode zb_MReader_next 57 = .ok (.iconst 1, 1) := by decide +kernel
theorem zd_MReader_next_58 : decode zb_MReader_next 58 = .ok (.iadd, 1) := by decide +kernel
theorem zd_MReader_next_59 : decode zb_MReader_next 59 = .ok (.putfield 27, 3) := by decide +kernel
theorem zd_MReader_next_62 : decode zb_MReader_next 62 = .ok (.goto (-62), 3) := by decide +kernel
theorem zd_MReader_next_65 : decode zb_MReader_next 65 = .ok (.aload_n 0, 1) := by decide +kernel
theorem zd_MReader_next_66 : decode zb_MReader_next 66 = .ok (.aload_n 0, 1) := by decide +kernel
theorem zd_MReader_next_67 : decode zb_MReader_next 67 = .ok (.getfield 27, 3) := by decide +kernel
theorem zd_MReader_next_70 : decode zb_MReader_next 70 = .ok (.invokevirtual 30, 3) := by decide +kernel
theorem zd_MReader_next_73 : decode zb_MReader_next 73 = .ok (.ireturn, 1) := by decide +kernel
theorem zw_1507 : (Jvm.Cond.fieldLink "OrreryBoxModel$Reader" (27 : Nat) "OrreryBoxModel$Reader" "at" "I") ∈ gw := gw_t 1507 (by decide +kernel) rfl
theorem zw_1773 : (Jvm.Cond.methodLink "OrreryBoxModel$Reader" (30 : Nat) ({ cls := "OrreryBoxModel$Reader", name := "byteAt", desc := "(I)I" } : Jvm.MethodName)) ∈ gw := gw_t 1773 (by decide +kernel) rfl
theorem zw_1775 : (Jvm.Cond.instanceMethod ({ cls := "OrreryBoxModel$Reader", name := "byteAt", desc := "(I)I" } : Jvm.MethodName)) ∈ gw := gw_t 1775 (by decide +kernel) rfl
theorem zv_70 : (Jvm.Cond.selects "OrreryBoxModel$Reader" (⟨"OrreryBoxModel$Reader", "byteAt", "(I)I"⟩ : MethodName) ⟨"OrreryBoxModel$Reader", "byteAt", "(I)I"⟩) ∈ gw := gw_s 70 (by decide +kernel) rfl
theorem zs_MReader_30 : zwV "OrreryBoxModel$Reader" 30 "OrreryBoxModel$Reader" zy_MReader_byteAt zb_MReader_byteAt 2 (some .int) := ⟨zw_1773, zw_1775, zv_70, zw_15, zc_MReader_byteAt⟩
set_option maxHeartbeats 4000000 in
set_option maxRecDepth 100000 in
theorem e_MReader_next (l : Launch) (D : va_G) (tA : Nat → ClassId) (b : Nat) (f : zV) (n : Nat) (na : Int32) (nu : Int32) (ii : Int32) (ls : Int32) (pt : Int32) (wr : Int32) (wa : Int32) (hf : f 1277 = some (.inr (14, [.ref (b + 1186), .ref (b + 1217), .int 0, .int 0, .int wr, .int wa, .int na, .int nu, .int ii, .int ls, .int pt])))  : zM l D tA b zy_MReader_next zb_MReader_next 1 (some .int) 1 21 0 0 [.ref (b + 1277)] f n (zE (some (.int (-1))) f n) := by
  refine zM_of (own := "OrreryBoxModel$Reader") (plainFor_of_name (by decide)) rfl (Nat.le_of_ble_eq_true rfl) (fun p e s m below meth c F hr hin hH => ?_)
  refine zr_aload_n F zd_MReader_next_0 rfl ?_
  refine zr_aload_n F zd_MReader_next_1 rfl ?_
  refine zr_get F 14 3 zd_MReader_next_2 hf rfl (by decide) zw_1507 rfl (by rfl) ?_
  refine zr_callV1 F (e_MReader_byteAt l D tA b _ _ na nu ii ls pt wr wa hf ) zd_MReader_next_5 hf rfl zs_MReader_30 rfl zq_MReader_byteAt rfl rfl ⟨(Nat.le_of_ble_eq_true rfl), (Nat.le_of_ble_eq_true rfl)⟩ (Nat.le_of_ble_eq_true rfl) ⟨(Nat.le_of_ble_eq_true rfl), (Nat.le_of_ble_eq_true rfl)⟩ ?_
  refine zr_bipushv (v := 32) F zd_MReader_next_8 (by decide) ?_
  refine zr_icmp_eq F 52 zd_MReader_next_10 (by decide) (fun h => absurd h (by decide)) (fun _ => ?_)
  refine zr_aload_n F zd_MReader_next_13 rfl ?_
  refine zr_aload_n F zd_MReader_next_14 rfl ?_
  refine zr_get F 14 3 zd_MReader_next_15 hf rfl (by decide) zw_1507 rfl (by rfl) ?_
  refine zr_callV1 F (e_MReader_byteAt l D tA b _ _ na nu ii ls pt wr wa hf ) zd_MReader_next_18 hf rfl zs_MReader_30 rfl zq_MReader_byteAt rfl rfl ⟨(Nat.le_of_ble_eq_true rfl), (Nat.le_of_ble_eq_true rfl)⟩ (Nat.le_of_ble_eq_true rfl) ⟨(Nat.le_of_ble_eq_true rfl), (Nat.le_of_ble_eq_true rfl)⟩ ?_
  refine zr_bipushv (v := 10) F zd_MReader_next_21 (by decide) ?_
  refine zr_icmp_eq F 52 zd_MReader_next_23 (by decide) (fun h => absurd h (by decide)) (fun _ => ?_)
  refine zr_aload_n F zd_MReader_next_26 rfl ?_
  refine zr_aload_n F zd_MReader_next_27 rfl ?_
  refine zr_get F 14 3 zd_MReader_next_28 hf rfl (by decide) zw_1507 rfl (by rfl) ?_
  refine zr_callV1 F (e_MReader_byteAt l D tA b _ _ na nu ii ls pt wr wa hf ) zd_MReader_next_31 hf rfl zs_MReader_30 rfl zq_MReader_byteAt rfl rfl ⟨(Nat.le_of_ble_eq_true rfl), (Nat.le_of_ble_eq_true rfl)⟩ (Nat.le_of_ble_eq_true rfl) ⟨(Nat.le_of_ble_eq_true rfl), (Nat.le_of_ble_eq_true rfl)⟩ ?_
  refine zr_bipushv (v := 13) F zd_MReader_next_34 (by decide) ?_
  refine zr_icmp_eq F 52 zd_MReader_next_36 (by decide) (fun h => absurd h (by decide)) (fun _ => ?_)
  refine zr_aload_n F zd_MReader_next_39 rfl ?_
  refine zr_aload_n F zd_MReader_next_40 rfl ?_
  refine zr_get F 14 3 zd_MReader_next_41 hf rfl (by decide) zw_1507 rfl (by rfl) ?_
  refine zr_callV1 F (e_MReader_byteAt l D tA b _ _ na nu ii ls pt wr wa hf ) zd_MReader_next_44 hf rfl zs_MReader_30 rfl zq_MReader_byteAt rfl rfl ⟨(Nat.le_of_ble_eq_true rfl), (Nat.le_of_ble_eq_true rfl)⟩ (Nat.le_of_ble_eq_true rfl) ⟨(Nat.le_of_ble_eq_true rfl), (Nat.le_of_ble_eq_true rfl)⟩ ?_
  refine zr_bipushv (v := 9) F zd_MReader_next_47 (by decide) ?_
  refine zr_icmp_ne F 65 zd_MReader_next_49 (by decide) (fun _ => ?_) (fun h => absurd h (by decide))
  refine zr_aload_n F zd_MReader_next_65 rfl ?_
  refine zr_aload_n F zd_MReader_next_66 rfl ?_
  refine zr_get F 14 3 zd_MReader_next_67 hf rfl (by decide) zw_1507 rfl (by rfl) ?_
  refine zr_callV1 F (e_MReader_byteAt l D tA b _ _ na nu ii ls pt wr wa hf ) zd_MReader_next_70 hf rfl zs_MReader_30 rfl zq_MReader_byteAt rfl rfl ⟨(Nat.le_of_ble_eq_true rfl), (Nat.le_of_ble_eq_true rfl)⟩ (Nat.le_of_ble_eq_true rfl) ⟨(Nat.le_of_ble_eq_true rfl), (Nat.le_of_ble_eq_true rfl)⟩ ?_
  exact zr_iret F hr zd_MReader_next_73 (Nat.le_of_ble_eq_true rfl) (Nat.le_of_ble_eq_true rfl) ⟨rfl, rfl, rfl⟩
set_option maxHeartbeats 4000000 in
set_option maxRecDepth 100000 in
theorem e_MReader_fail (l : Launch) (D : va_G) (tA : Nat → ClassId) (b : Nat) (f : zV) (n : Nat) (k : Int32) (pl : Int32) (na : Int32) (nu : Int32) (ii : Int32) (ls : Int32) (pt : Int32) (hf : f 1277 = some (.inr (14, [.ref (b + 1186), .ref (b + 1217), .int 0, .int 0, .int 0, .int 0, .int na, .int nu, .int ii, .int ls, .int pt])))  : zM l D tA b zy_MReader_fail zb_MReader_fail 3 none 0 0 0 0 [.ref (b + 1277), .int k, .int pl] f n (zE none (zu (f) 1277 (.inr (14, [.ref (b + 1186), .ref (b + 1217), .int 0, .int 0, .int k, .int pl, .int na, .int nu, .int ii, .int ls, .int pt]))) n) := by
  refine zM_of (own := "OrreryBoxModel$Reader") (plainFor_of_name (by decide)) rfl (Nat.le_of_ble_eq_true rfl) (fun p e s m below meth c F hr hin hH => ?_)
  refine zr_aload_n F zd_MReader_fail_0 rfl ?_
  refine zr_get F 14 4 zd_MReader_fail_1 hf rfl (by decide) zw_1508 rfl (by rfl) ?_
  refine zr_if_eq F 8 zd_MReader_fail_4 (by decide) (fun _ => ?_) (fun h => absurd h (by decide))
  refine zr_aload_n F zd_MReader_fail_8 rfl ?_
  refine zr_iload_n F zd_MReader_fail_9 rfl ?_
  refine zr_put F 14 4 zd_MReader_fail_10 hf rfl (by decide) zw_1508 rfl rfl rfl rfl (by exact (Nat.le_of_ble_eq_true rfl)) ?_
  refine zr_norm (zu (f) 1277 (.inr (14, [.ref (b + 1186), .ref (b + 1217), .int 0, .int 0, .int k, .int 0, .int na, .int nu, .int ii, .int ls, .int pt]))) _ (rfl) rfl ?_
  refine zr_aload_n F zd_MReader_fail_13 rfl ?_
  refine zr_iload_n F zd_MReader_fail_14 rfl ?_
  refine zr_put F 14 5 zd_MReader_fail_15 (zu_s _ _ _) rfl (by decide) zw_1510 rfl rfl rfl rfl (by exact (Nat.le_of_ble_eq_true rfl)) ?_
  refine zr_norm (zu (f) 1277 (.inr (14, [.ref (b + 1186), .ref (b + 1217), .int 0, .int 0, .int k, .int pl, .int na, .int nu, .int ii, .int ls, .int pt]))) _ (zu_zu _ _ _ _) rfl ?_
  exact zr_vret F hr zd_MReader_fail_18 (Nat.le_of_ble_eq_true rfl) (Nat.le_of_ble_eq_true rfl) ⟨rfl, rfl, rfl⟩
abbrev zb_MReader_sign : ByteArray := prog_17_method_5_code
def zy_MReader_sign : MethodName := ⟨"OrreryBoxModel$Reader", "sign", "(I)V"⟩
theorem zc_MReader_sign : Cond.code zy_MReader_sign zb_MReader_sign 2 none ∈ gw := gw_t 1768 (by decide +kernel) rfl
theorem zq_MReader_sign : zy_MReader_sign.cls ≠ "java/lang/invoke/MethodHandle" ∧ zy_MReader_sign.cls ≠ "java/lang/invoke/VarHandle" ∧ (parseMethodDescriptor zy_MReader_sign.desc).map (fun d => d.parameters.length) = some 1 := by decide +kernel
theorem zd_MReader_sign_0 : decode zb_MReader_sign 0 = .ok (.aload_n 0, 1) := by decide +kernel
theorem zd_MReader_sign_1 : decode zb_MReader_sign 1 = .ok (.getfield 17, 3) := by decide +kernel
theorem zd_MReader_sign_4 : decode zb_MReader_sign 4 = .ok (.ifCond .eq 4, 3) := by decide +kernel
theorem zd_MReader_sign_7 : decode zb_MReader_sign 7 = .ok (.return_, 1) := by decide +kernel
theorem zd_MReader_sign_8 : decode zb_MReader_sign 8 = .ok (.aload_n 0, 1) := by decide +kernel
theorem zd_MReader_sign_9 : decode zb_MReader_sign 9 = .ok (.invokevirtual 34, 3) := by decide +kernel
theorem zd_MReader_sign_12 : decode zb_MReader_sign 12 = .ok (.iload_n 1, 1) := by decide +kernel
theorem zd_MReader_sign_13 : decode zb_MReader_sign 13 = .ok (.if_icmp .ne 16, 3) := by decide +kernel
theorem zd_MReader_sign_16 : decode zb_MReader_sign 16 = .ok (.aload_n 0, 1) := by decide +kernel
theorem zd_MReader_sign_17 : decode zb_MReader_sign 17 = .ok (.dup, 1) := by decide +kernel
theorem zd_MReader_sign_18 : decode zb_MReader_sign 18 = .ok (.getfield 27, 3) := by decide +kernel
theorem zd_MReader_sign_21 : decode zb_MReader_sign 21 = .ok (.iconst 1, 1) := by decide +kernel
theorem zd_MReader_sign_22 : decode zb_MReader_sign 22 = .ok (.iadd, 1) := by decide +kernel
theorem zd_MReader_sign_23 : decode zb_MReader_sign 23 = .ok (.putfield 27, 3) := by decide +kernel
theorem zd_MReader_sign_26 : decode zb_MReader_sign 26 = .ok (.goto 12, 3) := by decide +kernel
theorem zd_MReader_sign_29 : decode zb_MReader_sign 29 = .ok (.aload_n 0, 1) := by decide +kernel
theorem zd_MReader_sign_30 : decode zb_MReader_sign 30 = .ok (.iconst 1, 1) := by decide +kernel
theorem zd_MReader_sign_31 : decode zb_MReader_sign 31 = .ok (.aload_n 0, 1) := by decide +kernel
theorem zd_MReader_sign_32 : decode zb_MReader_sign 32 = .ok (.getfield 27, 3) := by decide +kernel
theorem zd_MReader_sign_35 : decode zb_MReader_sign 35 = .ok (.invokevirtual 38, 3) := by decide +kernel
theorem zd_MReader_sign_38 : decode zb_MReader_sign 38 = .ok (.return_, 1) := by decide +kernel
theorem zw_1769 : (Jvm.Cond.methodLink "OrreryBoxModel$Reader" (34 : Nat) ({ cls := "OrreryBoxModel$Reader", name := "next", desc := "()I" } : Jvm.MethodName)) ∈ gw := gw_t 1769 (by decide +kernel) rfl
theorem zw_1771 : (Jvm.Cond.instanceMethod ({ cls := "OrreryBoxModel$Reader", name := "next", desc := "()I" } : Jvm.MethodName)) ∈ gw := gw_t 1771 (by decide +kernel) rfl
theorem zv_69 : (Jvm.Cond.selects "OrreryBoxModel$Reader" (⟨"OrreryBoxModel$Reader", "next", "()I"⟩ : MethodName) ⟨"OrreryBoxModel$Reader", "next", "()I"⟩) ∈ gw := gw_s 69 (by decide +kernel) rfl
theorem zs_MReader_34 : zwV "OrreryBoxModel$Reader" 34 "OrreryBoxModel$Reader" zy_MReader_next zb_MReader_next 1 (some .int) := ⟨zw_1769, zw_1771, zv_69, zw_15, zc_MReader_next⟩
theorem zw_1777 : (Jvm.Cond.methodLink "OrreryBoxModel$Reader" (38 : Nat) ({ cls := "OrreryBoxModel$Reader", name := "fail", desc := "(II)V" } : Jvm.MethodName)) ∈ gw := gw_t 1777 (by decide +kernel) rfl
theorem zw_1779 : (Jvm.Cond.instanceMethod ({ cls := "OrreryBoxModel$Reader", name := "fail", desc := "(II)V" } : Jvm.MethodName)) ∈ gw := gw_t 1779 (by decide +kernel) rfl
theorem zv_71 : (Jvm.Cond.selects "OrreryBoxModel$Reader" (⟨"OrreryBoxModel$Reader", "fail", "(II)V"⟩ : MethodName) ⟨"OrreryBoxModel$Reader", "fail", "(II)V"⟩) ∈ gw := gw_s 71 (by decide +kernel) rfl
theorem zs_MReader_38 : zwV "OrreryBoxModel$Reader" 38 "OrreryBoxModel$Reader" zy_MReader_fail zb_MReader_fail 3 none := ⟨zw_1777, zw_1779, zv_71, zw_15, zc_MReader_fail⟩
set_option maxHeartbeats 4000000 in
set_option maxRecDepth 100000 in
theorem e_MReader_sign (l : Launch) (D : va_G) (tA : Nat → ClassId) (b : Nat) (f : zV) (n : Nat) (na : Int32) (nu : Int32) (ii : Int32) (ls : Int32) (pt : Int32) (hf : f 1277 = some (.inr (14, [.ref (b + 1186), .ref (b + 1217), .int 0, .int 0, .int 0, .int 0, .int na, .int nu, .int ii, .int ls, .int pt])))  : zM l D tA b zy_MReader_sign zb_MReader_sign 2 none 2 41 0 0 [.ref (b + 1277), .int 123] f n (zE none (zu (f) 1277 (.inr (14, [.ref (b + 1186), .ref (b + 1217), .int 0, .int 0, .int 1, .int 0, .int na, .int nu, .int ii, .int ls, .int pt]))) n) := by
  refine zM_of (own := "OrreryBoxModel$Reader") (plainFor_of_name (by decide)) rfl (Nat.le_of_ble_eq_true rfl) (fun p e s m below meth c F hr hin hH => ?_)
  refine zr_aload_n F zd_MReader_sign_0 rfl ?_
  refine zr_get F 14 4 zd_MReader_sign_1 hf rfl (by decide) zw_1508 rfl (by rfl) ?_
  refine zr_if_eq F 8 zd_MReader_sign_4 (by decide) (fun _ => ?_) (fun h => absurd h (by decide))
  refine zr_aload_n F zd_MReader_sign_8 rfl ?_
  refine zr_callV1 F (e_MReader_next l D tA b _ _ na nu ii ls pt 0 0 hf ) zd_MReader_sign_9 hf rfl zs_MReader_34 rfl zq_MReader_next rfl rfl ⟨(Nat.le_of_ble_eq_true rfl), (Nat.le_of_ble_eq_true rfl)⟩ (Nat.le_of_ble_eq_true rfl) ⟨(Nat.le_of_ble_eq_true rfl), (Nat.le_of_ble_eq_true rfl)⟩ ?_
  refine zr_iload_n F zd_MReader_sign_12 rfl ?_
  refine zr_icmp_ne F 29 zd_MReader_sign_13 (by decide) (fun _ => ?_) (fun h => absurd h (by decide))
  refine zr_aload_n F zd_MReader_sign_29 rfl ?_
  refine zr_iconstv (v := 1) F zd_MReader_sign_30 (by decide) ?_
  refine zr_aload_n F zd_MReader_sign_31 rfl ?_
  refine zr_get F 14 3 zd_MReader_sign_32 hf rfl (by decide) zw_1507 rfl (by rfl) ?_
  refine zr_callV0 F (e_MReader_fail l D tA b _ _ 1 0 na nu ii ls pt hf ) zd_MReader_sign_35 hf rfl zs_MReader_38 rfl zq_MReader_fail rfl rfl ⟨(Nat.le_of_ble_eq_true rfl), (Nat.le_of_ble_eq_true rfl)⟩ (Nat.le_of_ble_eq_true rfl) ⟨(Nat.le_of_ble_eq_true rfl), (Nat.le_of_ble_eq_true rfl)⟩ ?_
  refine zr_norm (zu (f) 1277 (.inr (14, [.ref (b + 1186), .ref (b + 1217), .int 0, .int 0, .int 1, .int 0, .int na, .int nu, .int ii, .int ls, .int pt]))) _ (rfl) rfl ?_
  exact zr_vret F hr zd_MReader_sign_38 (Nat.le_of_ble_eq_true rfl) (Nat.le_of_ble_eq_true rfl) ⟨rfl, rfl, rfl⟩
set_option maxHeartbeats 4000000 in
set_option maxRecDepth 100000 in
theorem e_MReader_sign2 (l : Launch) (D : va_G) (tA : Nat → ClassId) (b : Nat) (f : zV) (n : Nat) (ch : Int32) (na : Int32) (nu : Int32) (ii : Int32) (ls : Int32) (pt : Int32) (hf : f 1277 = some (.inr (14, [.ref (b + 1186), .ref (b + 1217), .int 0, .int 0, .int 1, .int 0, .int na, .int nu, .int ii, .int ls, .int pt])))  : zM l D tA b zy_MReader_sign zb_MReader_sign 2 none 0 0 0 0 [.ref (b + 1277), .int ch] f n (zE none f n) := by
  refine zM_of (own := "OrreryBoxModel$Reader") (plainFor_of_name (by decide)) rfl (Nat.le_of_ble_eq_true rfl) (fun p e s m below meth c F hr hin hH => ?_)
  refine zr_aload_n F zd_MReader_sign_0 rfl ?_
  refine zr_get F 14 4 zd_MReader_sign_1 hf rfl (by decide) zw_1508 rfl (by rfl) ?_
  refine zr_if_eq F 8 zd_MReader_sign_4 (by decide) (fun h => absurd h (by decide)) (fun _ => ?_)
  exact zr_vret F hr zd_MReader_sign_7 (Nat.le_of_ble_eq_true rfl) (Nat.le_of_ble_eq_true rfl) ⟨rfl, rfl, rfl⟩
abbrev zb_MReader_read : ByteArray := prog_17_method_26_code
def zy_MReader_read : MethodName := ⟨"OrreryBoxModel$Reader", "read", "(I)V"⟩
theorem zc_MReader_read : Cond.code zy_MReader_read zb_MReader_read 3 none ∈ gw := gw_t 1764 (by decide +kernel) rfl
theorem zq_MReader_read : zy_MReader_read.cls ≠ "java/lang/invoke/MethodHandle" ∧ zy_MReader_read.cls ≠ "java/lang/invoke/VarHandle" ∧ (parseMethodDescriptor zy_MReader_read.desc).map (fun d => d.parameters.length) = some 1 := by decide +kernel
theorem zd_MReader_read_0 : decode zb_MReader_read 0 = .ok (.aload_n 0, 1) := by decide +kernel
theorem zd_MReader_read_1 : decode zb_MReader_read 1 = .ok (.iload_n 1, 1) := by decide +kernel
theorem zd_MReader_read_2 : decode zb_MReader_read 2 = .ok (.putfield 24, 3) := by decide +kernel
theorem zd_MReader_read_5 : decode zb_MReader_read 5 = .ok (.aload_n 0, 1) := by decide +kernel
theorem zd_MReader_read_6 : decode zb_MReader_read 6 = .ok (.iconst 0, 1) := by decide +kernel
theorem zd_MReader_read_7 : decode zb_MReader_read 7 = .ok (.putfield 27, 3) := by decide +kernel
theorem zd_MReader_read_10 : decode zb_MReader_read 10 = .ok (.aload_n 0, 1) := by decide +kernel
theorem zd_MReader_read_11 : decode zb_MReader_read 11 = .ok (.iconst 0, 1) := by decide +kernel
theorem zd_MReader_read_12 : decode zb_MReader_read 12 = .ok (.putfield 17, 3) := by decide +kernel
theorem zd_MReader_read_15 : decode zb_MReader_read 15 = .ok (.aload_n 0, 1) := by decide +kernel
theorem zd_MReader_read_16 : decode zb_MReader_read 16 = .ok (.iconst 0, 1) := by decide +kernel
theorem zd_MReader_read_17 : decode zb_MReader_read 17 = .ok (.putfield 21, 3) := by decide +kernel
theorem zd_MReader_read_20 : decode zb_MReader_read 20 = .ok (.aload_n 0, 1) := by decide +kernel
theorem zd_MReader_read_21 : decode zb_MReader_read 21 = .ok (.iconst 0, 1) := by decide +kernel
theorem zd_MReader_read_22 : decode zb_MReader_read 22 = .ok (.putfield 287, 3) := by decide +kernel
theorem zd_MReader_read_25 : decode zb_MReader_read 25 = .ok (.aload_n 0, 1) := by decide +kernel
theorem zd_MReader_read_26 : decode zb_MReader_read 26 = .ok (.bipush 123, 2) := by decide +kernel
theorem zd_MReader_read_28 : decode zb_MReader_read 28 = .ok (.invokevirtual 55, 3) := by decide +kernel
theorem zd_MReader_read_31 : decode zb_MReader_read 31 = .ok (.aload_n 0, 1) := by decide +kernel
theorem zd_MReader_read_32 : decode zb_MReader_read 32 = .ok (.getfield 17, 3) := by decide +kernel
theorem zd_MReader_read_35 : decode zb_MReader_read 35 = .ok (.ifCond .ne 16, 3) := by decide +kernel
theorem zd_MReader_read_38 : decode zb_MReader_read 38 = .ok (.aload_n 0, 1) := by decide +kernel
theorem zd_MReader_read_39 : decode zb_MReader_read 39 = .ok (.invokevirtual 34, 3) := by decide +kernel
theorem zd_MReader_read_42 : decode zb_MReader_read 42 = .ok (.bipush 125, 2) := by decide +kernel
theorem zd_MReader_read_44 : decode zb_MReader_read 44 = .ok (.if_icmp .eq 7, 3) := by decide +kernel
theorem zd_MReader_read_47 : decode zb_MReader_read 47 = .ok (.iconst 1, 1) := by decide +kernel
theorem zd_MReader_read_48 : decode zb_MReader_read 48 = .ok (.goto 4, 3) := by decide +kernel
theorem zd_MReader_read_51 : decode zb_MReader_read 51 = .ok (.iconst 0, 1) := by decide +kernel
theorem zd_MReader_read_52 : decode zb_MReader_read 52 = .ok (.istore_n 2, 1) := by decide +kernel
theorem zd_MReader_read_53 : decode zb_MReader_read 53 = .ok (.iload_n 2, 1) := by decide +kernel
theorem zd_MReader_read_54 : decode zb_MReader_read 54 = .ok (.ifCond .eq 62, 3) := by decide +kernel
theorem zd_MReader_read_57 : decode zb_MReader_read 57 = .ok (.aload_n 0, 1) := by decide +kernel
theorem zd_MReader_read_58 : decode zb_MReader_read 58 = .ok (.getfield 17, 3) := by decide +kernel
theorem zd_MReader_read_61 : decode zb_MReader_read 61 = .ok (.ifCond .ne 55, 3) := by decide +kernel
theorem zd_MReader_read_64 : decode zb_MReader_read 64 = .ok (.aload_n 0, 1) := by decide +kernel
theorem zd_MReader_read_65 : decode zb_MReader_read 65 = .ok (.invokevirtual 301, 3) := by decide +kernel
theorem zd_MReader_read_68 : decode zb_MReader_read 68 = .ok (.aload_n 0, 1) := by decide +kernel
theorem zd_MReader_read_69 : decode zb_MReader_read 69 = .ok (.getfield 17, 3) := by decide +kernel
theorem zd_MReader_read_72 : decode zb_MReader_read 72 = .ok (.ifCond .ne 25, 3) := by decide +kernel
theorem zd_MReader_read_75 : decode zb_MReader_read 75 = .ok (.aload_n 0, 1) := by decide +kernel
theorem zd_MReader_read_76 : decode zb_MReader_read 76 = .ok (.getfield 287, 3) := by decide +kernel
theorem zd_MReader_read_79 : decode zb_MReader_read 79 = .ok (.bipush 7, 2) := by decide +kernel
theorem zd_MReader_read_81 : decode zb_MReader_read 81 = .ok (.if_icmp .ge 16, 3) := by decide +kernel
theorem zd_MReader_read_84 : decode zb_MReader_read 84 = .ok (.aload_n 0, 1) := by decide +kernel
theorem zd_MReader_read_85 : decode zb_MReader_read 85 = .ok (.invokevirtual 34, 3) := by decide +kernel
theorem zd_MReader_read_88 : decode zb_MReader_read 88 = .ok (.bipush 44, 2) := by decide +kernel
theorem zd_MReader_read_90 : decode zb_MReader_read 90 = .ok (.if_icmp .ne 7, 3) := by decide +kernel
theorem zd_MReader_read_93 : decode zb_MReader_read 93 = .ok (.iconst 1, 1) := by decide +kernel
theorem zd_MReader_read_94 : decode zb_MReader_read 94 = .ok (.goto 4, 3) := by decide +kernel
theorem zd_MReader_read_97 : decode zb_MReader_read 97 = .ok (.iconst 0, 1) := by decide +kernel
theorem zd_MReader_read_98 : decode zb_MReader_read 98 = .ok (.istore_n 2, 1) := by decide +kernel
theorem zd_MReader_read_99 : decode zb_MReader_read 99 = .ok (.iload_n 2, 1) := by decide +kernel
theorem zd_MReader_read_100 : decode zb_MReader_read 100 = .ok (.ifCond .eq (-47), 3) := by decide +kernel
theorem zd_MReader_read_103 : decode zb_MReader_read 103 = .ok (.aload_n 0, 1) := by decide +kernel
theorem zd_MReader_read_104 : decode zb_MReader_read 104 = .ok (.dup, 1) := by decide +kernel
theorem zd_MReader_read_105 : decode zb_MReader_read 105 = .ok (.getfield 27, 3) := by decide +kernel
theorem zd_MReader_read_108 : decode zb_MReader_read 108 = .ok (.iconst 1, 1) := by decide +kernel
theorem zd_MReader_read_109 : decode zb_MReader_read 109 = .ok (.iadd, 1) := by decide +kernel
theorem zd_MReader_read_110 : decode zb_MReader_read 110 = .ok (.putfield 27, 3) := by decide +kernel
theorem zd_MReader_read_113 : decode zb_MReader_read 113 = .ok (.goto (-60), 3) := by decide +kernel
theorem zd_MReader_read_116 : decode zb_MReader_read 116 = .ok (.aload_n 0, 1) := by decide +kernel
theorem zd_MReader_read_117 : decode zb_MReader_read 117 = .ok (.bipush 125, 2) := by decide +kernel
theorem zd_MReader_read_119 : decode zb_MReader_read 119 = .ok (.invokevirtual 55, 3) := by decide +kernel
theorem zd_MReader_read_122 : decode zb_MReader_read 122 = .ok (.aload_n 0, 1) := by decide +kernel
theorem zd_MReader_read_123 : decode zb_MReader_read 123 = .ok (.getfield 17, 3) := by decide +kernel
theorem zd_MReader_read_126 : decode zb_MReader_read 126 = .ok (.ifCond .ne 20, 3) := by decide +kernel
theorem zd_MReader_read_129 : decode zb_MReader_read 129 = .ok (.aload_n 0, 1) := by decide +kernel
theorem zd_MReader_read_130 : decode zb_MReader_read 130 = .ok (.invokevirtual 34, 3) := by decide +kernel
theorem zd_MReader_read_133 : decode zb_MReader_read 133 = .ok (.iconst (-1), 1) := by decide +kernel
theorem zd_MReader_read_134 : decode zb_MReader_read 134 = .ok (.if_icmp .eq 12, 3) := by decide +kernel
theorem zd_MReader_read_137 : decode zb_MReader_read 137 = .ok (.aload_n 0, 1) := by decide +kernel
theorem zd_MReader_read_138 : decode zb_MReader_read 138 = .ok (.iconst 1, 1) := by decide +kernel
theorem zd_MReader_read_139 : decode zb_MReader_read 139 = .ok (.aload_n 0, 1) := by decide +kernel
theorem zd_MReader_read_140 : decode zb_MReader_read 140 = .ok (.getfield 27, 3) := by decide +kernel
theorem zd_MReader_read_143 : decode zb_MReader_read 143 = .ok (.invokevirtual 38, 3) := by decide +kernel
theorem zd_MReader_read_146 : decode zb_MReader_read 146 = .ok (.return_, 1) := by decide +kernel
theorem zw_1516 : (Jvm.Cond.fieldLink "OrreryBoxModel$Reader" (287 : Nat) "OrreryBoxModel$Reader" "part" "I") ∈ gw := gw_t 1516 (by decide +kernel) rfl
theorem zw_1765 : (Jvm.Cond.methodLink "OrreryBoxModel$Reader" (55 : Nat) ({ cls := "OrreryBoxModel$Reader", name := "sign", desc := "(I)V" } : Jvm.MethodName)) ∈ gw := gw_t 1765 (by decide +kernel) rfl
theorem zw_1767 : (Jvm.Cond.instanceMethod ({ cls := "OrreryBoxModel$Reader", name := "sign", desc := "(I)V" } : Jvm.MethodName)) ∈ gw := gw_t 1767 (by decide +kernel) rfl
theorem zv_68 : (Jvm.Cond.selects "OrreryBoxModel$Reader" (⟨"OrreryBoxModel$Reader", "sign", "(I)V"⟩ : MethodName) ⟨"OrreryBoxModel$Reader", "sign", "(I)V"⟩) ∈ gw := gw_s 68 (by decide +kernel) rfl
theorem zs_MReader_55 : zwV "OrreryBoxModel$Reader" 55 "OrreryBoxModel$Reader" zy_MReader_sign zb_MReader_sign 2 none := ⟨zw_1765, zw_1767, zv_68, zw_15, zc_MReader_sign⟩
set_option maxHeartbeats 4000000 in
set_option maxRecDepth 100000 in
theorem e_MReader_read (l : Launch) (D : va_G) (tA : Nat → ClassId) (b : Nat) (f : zV) (n : Nat) (na : Int32) (nu : Int32) (ii : Int32) (ls : Int32) (pt : Int32) (z : Int32) (at0 : Int32) (wr : Int32) (wa : Int32) (hf : f 1277 = some (.inr (14, [.ref (b + 1186), .ref (b + 1217), .int z, .int at0, .int wr, .int wa, .int na, .int nu, .int ii, .int ls, .int pt])))  : zM l D tA b zy_MReader_read zb_MReader_read 3 none 3 62 0 0 [.ref (b + 1277), .int 0] f n (zE none (zu (f) 1277 (.inr (14, [.ref (b + 1186), .ref (b + 1217), .int 0, .int 0, .int 1, .int 0, .int na, .int nu, .int ii, .int ls, .int 0]))) n) := by
  refine zM_of (own := "OrreryBoxModel$Reader") (plainFor_of_name (by decide)) rfl (Nat.le_of_ble_eq_true rfl) (fun p e s m below meth c F hr hin hH => ?_)
  refine zr_aload_n F zd_MReader_read_0 rfl ?_
  refine zr_iload_n F zd_MReader_read_1 rfl ?_
  refine zr_put F 14 2 zd_MReader_read_2 hf rfl (by decide) zw_1506 rfl rfl rfl rfl (by exact (Nat.le_of_ble_eq_true rfl)) ?_
  refine zr_norm (zu (f) 1277 (.inr (14, [.ref (b + 1186), .ref (b + 1217), .int 0, .int at0, .int wr, .int wa, .int na, .int nu, .int ii, .int ls, .int pt]))) _ (rfl) rfl ?_
  refine zr_aload_n F zd_MReader_read_5 rfl ?_
  refine zr_iconstv (v := 0) F zd_MReader_read_6 (by decide) ?_
  refine zr_put F 14 3 zd_MReader_read_7 (zu_s _ _ _) rfl (by decide) zw_1507 rfl rfl rfl rfl (by exact (Nat.le_of_ble_eq_true rfl)) ?_
  refine zr_norm (zu (f) 1277 (.inr (14, [.ref (b + 1186), .ref (b + 1217), .int 0, .int 0, .int wr, .int wa, .int na, .int nu, .int ii, .int ls, .int pt]))) _ (zu_zu _ _ _ _) rfl ?_
  refine zr_aload_n F zd_MReader_read_10 rfl ?_
  refine zr_iconstv (v := 0) F zd_MReader_read_11 (by decide) ?_
  refine zr_put F 14 4 zd_MReader_read_12 (zu_s _ _ _) rfl (by decide) zw_1508 rfl rfl rfl rfl (by exact (Nat.le_of_ble_eq_true rfl)) ?_
  refine zr_norm (zu (f) 1277 (.inr (14, [.ref (b + 1186), .ref (b + 1217), .int 0, .int 0, .int 0, .int wa, .int na, .int nu, .int ii, .int ls, .int pt]))) _ (zu_zu _ _ _ _) rfl ?_
  refine zr_aload_n F zd_MReader_read_15 rfl ?_
  refine zr_iconstv (v := 0) F zd_MReader_read_16 (by decide) ?_
  refine zr_put F 14 5 zd_MReader_read_17 (zu_s _ _ _) rfl (by decide) zw_1510 rfl rfl rfl rfl (by exact (Nat.le_of_ble_eq_true rfl)) ?_
  refine zr_norm (zu (f) 1277 (.inr (14, [.ref (b + 1186), .ref (b + 1217), .int 0, .int 0, .int 0, .int 0, .int na, .int nu, .int ii, .int ls, .int pt]))) _ (zu_zu _ _ _ _) rfl ?_
  refine zr_aload_n F zd_MReader_read_20 rfl ?_
  refine zr_iconstv (v := 0) F zd_MReader_read_21 (by decide) ?_
  refine zr_put F 14 10 zd_MReader_read_22 (zu_s _ _ _) rfl (by decide) zw_1516 rfl rfl rfl rfl (by exact (Nat.le_of_ble_eq_true rfl)) ?_
  refine zr_norm (zu (f) 1277 (.inr (14, [.ref (b + 1186), .ref (b + 1217), .int 0, .int 0, .int 0, .int 0, .int na, .int nu, .int ii, .int ls, .int 0]))) _ (zu_zu _ _ _ _) rfl ?_
  refine zr_aload_n F zd_MReader_read_25 rfl ?_
  refine zr_bipushv (v := 123) F zd_MReader_read_26 (by decide) ?_
  refine zr_callV0 F (e_MReader_sign l D tA b _ _ na nu ii ls 0 (zu_s _ _ _) ) zd_MReader_read_28 (zu_s _ _ _) rfl zs_MReader_55 rfl zq_MReader_sign rfl rfl ⟨(Nat.le_of_ble_eq_true rfl), (Nat.le_of_ble_eq_true rfl)⟩ (Nat.le_of_ble_eq_true rfl) ⟨(Nat.le_of_ble_eq_true rfl), (Nat.le_of_ble_eq_true rfl)⟩ ?_
  refine zr_norm (zu (f) 1277 (.inr (14, [.ref (b + 1186), .ref (b + 1217), .int 0, .int 0, .int 1, .int 0, .int na, .int nu, .int ii, .int ls, .int 0]))) _ (zu_zu _ _ _ _) rfl ?_
  refine zr_aload_n F zd_MReader_read_31 rfl ?_
  refine zr_get F 14 4 zd_MReader_read_32 (zu_s _ _ _) rfl (by decide) zw_1508 rfl (by rfl) ?_
  refine zr_if_ne F 51 zd_MReader_read_35 (by decide) (fun _ => ?_) (fun h => absurd h (by decide))
  refine zr_iconstv (v := 0) F zd_MReader_read_51 (by decide) ?_
  refine zr_istore_n F zd_MReader_read_52 (by decide) ?_
  refine zr_iload_n F zd_MReader_read_53 rfl ?_
  refine zr_if_eq F 116 zd_MReader_read_54 (by decide) (fun _ => ?_) (fun h => absurd h (by decide))
  refine zr_aload_n F zd_MReader_read_116 rfl ?_
  refine zr_bipushv (v := 125) F zd_MReader_read_117 (by decide) ?_
  refine zr_callV0 F (e_MReader_sign2 l D tA b _ _ 125 na nu ii ls 0 (zu_s _ _ _) ) zd_MReader_read_119 (zu_s _ _ _) rfl zs_MReader_55 rfl zq_MReader_sign rfl rfl ⟨(Nat.le_of_ble_eq_true rfl), (Nat.le_of_ble_eq_true rfl)⟩ (Nat.le_of_ble_eq_true rfl) ⟨(Nat.le_of_ble_eq_true rfl), (Nat.le_of_ble_eq_true rfl)⟩ ?_
  refine zr_aload_n F zd_MReader_read_122 rfl ?_
  refine zr_get F 14 4 zd_MReader_read_123 (zu_s _ _ _) rfl (by decide) zw_1508 rfl (by rfl) ?_
  refine zr_if_ne F 146 zd_MReader_read_126 (by decide) (fun _ => ?_) (fun h => absurd h (by decide))
  exact zr_vret F hr zd_MReader_read_146 (Nat.le_of_ble_eq_true rfl) (Nat.le_of_ble_eq_true rfl) ⟨rfl, rfl, rfl⟩
abbrev zb_MD_load : ByteArray := prog_14_method_6_code
def zy_MD_load : MethodName := ⟨"OrreryBoxModel", "load", "()I"⟩
theorem zc_MD_load : Cond.code zy_MD_load zb_MD_load 2 (some .int) ∈ gw := gw_t 1760 (by decide +kernel) rfl
theorem zq_MD_load : zy_MD_load.cls ≠ "java/lang/invoke/MethodHandle" ∧ zy_MD_load.cls ≠ "java/lang/invoke/VarHandle" ∧ (parseMethodDescriptor zy_MD_load.desc).map (fun d => d.parameters.length) = some 0 := by decide +kernel
theorem zd_MD_load_0 : decode zb_MD_load 0 = .ok (.aload_n 0, 1) := by decide +kernel
theorem zd_MD_load_1 : decode zb_MD_load 1 = .ok (.getfield 83, 3) := by decide +kernel
theorem zd_MD_load_4 : decode zb_MD_load 4 = .ok (.istore_n 1, 1) := by decide +kernel
theorem zd_MD_load_5 : decode zb_MD_load 5 = .ok (.aload_n 0, 1) := by decide +kernel
theorem zd_MD_load_6 : decode zb_MD_load 6 = .ok (.iconst 0, 1) := by decide +kernel
theorem zd_MD_load_7 : decode zb_MD_load 7 = .ok (.putfield 83, 3) := by decide +kernel
theorem zd_MD_load_10 : decode zb_MD_load 10 = .ok (.aload_n 0, 1) := by decide +kernel
theorem zd_MD_load_11 : decode zb_MD_load 11 = .ok (.getfield 21, 3) := by decide +kernel
theorem zd_MD_load_14 : decode zb_MD_load 14 = .ok (.invokevirtual 77, 3) := by decide +kernel
theorem zd_MD_load_17 : decode zb_MD_load 17 = .ok (.aload_n 0, 1) := by decide +kernel
theorem zd_MD_load_18 : decode zb_MD_load 18 = .ok (.getfield 32, 3) := by decide +kernel
theorem zd_MD_load_21 : decode zb_MD_load 21 = .ok (.iload_n 1, 1) := by decide +kernel
theorem zd_MD_load_22 : decode zb_MD_load 22 = .ok (.invokevirtual 90, 3) := by decide +kernel
theorem zd_MD_load_25 : decode zb_MD_load 25 = .ok (.aload_n 0, 1) := by decide +kernel
theorem zd_MD_load_26 : decode zb_MD_load 26 = .ok (.aload_n 0, 1) := by decide +kernel
theorem zd_MD_load_27 : decode zb_MD_load 27 = .ok (.getfield 32, 3) := by decide +kernel
theorem zd_MD_load_30 : decode zb_MD_load 30 = .ok (.getfield 93, 3) := by decide +kernel
theorem zd_MD_load_33 : decode zb_MD_load 33 = .ok (.putfield 96, 3) := by decide +kernel
theorem zd_MD_load_36 : decode zb_MD_load 36 = .ok (.aload_n 0, 1) := by decide +kernel
theorem zd_MD_load_37 : decode zb_MD_load 37 = .ok (.aload_n 0, 1) := by decide +kernel
theorem zd_MD_load_38 : decode zb_MD_load 38 = .ok (.getfield 32, 3) := by decide +kernel
theorem zd_MD_load_41 : decode zb_MD_load 41 = .ok (.getfield 99, 3) := by decide +kernel
theorem zd_MD_load_44 : decode zb_MD_load 44 = .ok (.putfield 102, 3) := by decide +kernel
theorem zd_MD_load_47 : decode zb_MD_load 47 = .ok (.aload_n 0, 1) := by decide +kernel
theorem zd_MD_load_48 : decode zb_MD_load 48 = .ok (.aload_n 0, 1) := by decide +kernel
theorem zd_MD_load_49 : decode zb_MD_load 49 = .ok (.getfield 96, 3) := by decide +kernel
theorem zd_MD_load_52 : decode zb_MD_load 52 = .ok (.ifCond .ne 7, 3) := by decide +kernel
theorem zd_MD_load_55 : decode zb_MD_load 55 = .ok (.iconst 0, 1) := by decide +kernel
theorem zd_MD_load_56 : decode zb_MD_load 56 = .ok (.goto 4, 3) := by decide +kernel
theorem zd_MD_load_59 : decode zb_MD_load 59 = .ok (.iconst 1, 1) := by decide +kernel
theorem zd_MD_load_60 : decode zb_MD_load 60 = .ok (.putfield 80, 3) := by decide +kernel
theorem zd_MD_load_63 : decode zb_MD_load 63 = .ok (.aload_n 0, 1) := by decide +kernel
theorem zd_MD_load_64 : decode zb_MD_load 64 = .ok (.getfield 80, 3) := by decide +kernel
theorem zd_MD_load_67 : decode zb_MD_load 67 = .ok (.ifCond .eq 5, 3) := by decide +kernel
theorem zd_MD_load_70 : decode zb_MD_load 70 = .ok (.iconst 0, 1) := by decide +kernel
theorem zd_MD_load_71 : decode zb_MD_load 71 = .ok (.ireturn, 1) := by decide +kernel
theorem zd_MD_load_72 : decode zb_MD_load 72 = .ok (.aload_n 0, 1) := by decide +kernel
theorem zd_MD_load_73 : decode zb_MD_load 73 = .ok (.getfield 21, 3) := by decide +kernel
theorem zd_MD_load_76 : decode zb_MD_load 76 = .ok (.invokevirtual 103, 3) := by decide +kernel
theorem zd_MD_load_79 : decode zb_MD_load 79 = .ok (.aload_n 0, 1) := by decide +kernel
theorem zd_MD_load_80 : decode zb_MD_load 80 = .ok (.getfield 17, 3) := by decide +kernel
theorem zd_MD_load_83 : decode zb_MD_load 83 = .ok (.aload_n 0, 1) := by decide +kernel
theorem zd_MD_load_84 : decode zb_MD_load 84 = .ok (.getfield 21, 3) := by decide +kernel
theorem zd_MD_load_87 : decode zb_MD_load 87 = .ok (.invokevirtual 106, 3) := by decide +kernel
theorem zd_MD_load_90 : decode zb_MD_load 90 = .ok (.aload_n 0, 1) := by decide +kernel
theorem zd_MD_load_91 : decode zb_MD_load 91 = .ok (.iconst 0, 1) := by decide +kernel
theorem zd_MD_load_92 : decode zb_MD_load 92 = .ok (.putfield 110, 3) := by decide +kernel
theorem zd_MD_load_95 : decode zb_MD_load 95 = .ok (.aload_n 0, 1) := by decide +kernel
theorem zd_MD_load_96 : decode zb_MD_load 96 = .ok (.getfield 17, 3) := by decide +kernel
theorem zd_MD_load_99 : decode zb_MD_load 99 = .ok (.getfield 113, 3) := by decide +kernel
theorem zd_MD_load_102 : decode zb_MD_load 102 = .ok (.ireturn, 1) := by decide +kernel
theorem zw_1761 : (Jvm.Cond.methodLink "OrreryBoxModel" (90 : Nat) ({ cls := "OrreryBoxModel$Reader", name := "read", desc := "(I)V" } : Jvm.MethodName)) ∈ gw := gw_t 1761 (by decide +kernel) rfl
theorem zw_1762 : (Jvm.Cond.instanceMethod ({ cls := "OrreryBoxModel$Reader", name := "read", desc := "(I)V" } : Jvm.MethodName)) ∈ gw := gw_t 1762 (by decide +kernel) rfl
theorem zw_1763 : (Jvm.Cond.selects "OrreryBoxModel$Reader" ({ cls := "OrreryBoxModel$Reader", name := "read", desc := "(I)V" } : Jvm.MethodName) ({ cls := "OrreryBoxModel$Reader", name := "read", desc := "(I)V" } : Jvm.MethodName)) ∈ gw := gw_t 1763 (by decide +kernel) rfl
theorem zs_MD_90 : zwV "OrreryBoxModel" 90 "OrreryBoxModel$Reader" zy_MReader_read zb_MReader_read 3 none := ⟨zw_1761, zw_1762, zw_1763, zw_15, zc_MReader_read⟩
theorem zw_1509 : (Jvm.Cond.fieldLink "OrreryBoxModel" (93 : Nat) "OrreryBoxModel$Reader" "wrong" "I") ∈ gw := gw_t 1509 (by decide +kernel) rfl
theorem zw_1511 : (Jvm.Cond.fieldLink "OrreryBoxModel" (99 : Nat) "OrreryBoxModel$Reader" "wrongAt" "I") ∈ gw := gw_t 1511 (by decide +kernel) rfl
set_option maxHeartbeats 4000000 in
set_option maxRecDepth 100000 in
theorem e_MD_load (l : Launch) (D : va_G) (tA : Nat → ClassId) (b : Nat) (f : zV) (n : Nat) (w : Int32) (h : Int32) (g1 : Nat → Int32) (g2 : Nat → Int32) (g3 : Nat → Int32) (h0 : f 1185 = some (.inr (1, [.int w, .int h, .ref (b + 1186), .int 0, .ref (b + 1187), .ref (b + 1217), .ref (b + 1247), .ref (b + 1277), .ref (b + 1285), .ref (b + 1278), .int 0, .int 0, .int 0, .int 0, .ref (b + 1281), .int 0, .ref (b + 1282), .ref (b + 1283), .ref (b + 1284), .int (-1)]))) (hs : f 1217 = some (.inr (15, msO b 1218 0 0 0 0 0 0 0))) (hg1 : f ((1218 + 26)) = some (.inl (tA 0, 3, .inl (g1)))) (hg2 : f ((1218 + 27)) = some (.inl (tA 0, 3, .inl (g2)))) (hg3 : f ((1218 + 28)) = some (.inl (tA 0, 3, .inl (g3)))) (hrd : f 1277 = some (.inr (14, [.ref (b + 1186), .ref (b + 1217), .int 0, .int 0, .int 0, .int 0, .int 0, .int 0, .int 0, .int 0, .int 0])))  : zM l D tA b zy_MD_load zb_MD_load 2 (some .int) 4 84 0 0 [.ref (b + 1185)] f n (zE (some (.int 0)) (zu (zu (zu (zu (zu (zu (f) 1185 (.inr (1, [.int w, .int h, .ref (b + 1186), .int 0, .ref (b + 1187), .ref (b + 1217), .ref (b + 1247), .ref (b + 1277), .ref (b + 1285), .ref (b + 1278), .int 0, .int 1, .int 1, .int 0, .ref (b + 1281), .int 0, .ref (b + 1282), .ref (b + 1283), .ref (b + 1284), .int (-1)]))) ((1218 + 26)) (.inl (tA 0, 3, .inl (zclr g1 3)))) ((1218 + 27)) (.inl (tA 0, 3, .inl (zclr g2 3)))) ((1218 + 28)) (.inl (tA 0, 3, .inl (ztow g3)))) 1217 (.inr (15, msO b 1218 0 0 0 0 0 32 16384))) 1277 (.inr (14, [.ref (b + 1186), .ref (b + 1217), .int 0, .int 0, .int 1, .int 0, .int 0, .int 0, .int 0, .int 0, .int 0]))) n) := by
  refine zM_of (own := "OrreryBoxModel") (plainFor_of_name (by decide)) rfl (Nat.le_of_ble_eq_true rfl) (fun p e s m below meth c F hr hin hH => ?_)
  refine zr_aload_n F zd_MD_load_0 rfl ?_
  refine zr_get F 1 3 zd_MD_load_1 h0 rfl (by decide) zw_1683 rfl (by rfl) ?_
  refine zr_istore_n F zd_MD_load_4 (by decide) ?_
  refine zr_aload_n F zd_MD_load_5 rfl ?_
  refine zr_iconstv (v := 0) F zd_MD_load_6 (by decide) ?_
  refine zr_put F 1 3 zd_MD_load_7 h0 rfl (by decide) zw_1683 rfl rfl rfl rfl (by exact (Nat.le_of_ble_eq_true rfl)) ?_
  refine zr_norm (zu (f) 1185 (.inr (1, [.int w, .int h, .ref (b + 1186), .int 0, .ref (b + 1187), .ref (b + 1217), .ref (b + 1247), .ref (b + 1277), .ref (b + 1285), .ref (b + 1278), .int 0, .int 0, .int 0, .int 0, .ref (b + 1281), .int 0, .ref (b + 1282), .ref (b + 1283), .ref (b + 1284), .int (-1)]))) _ (rfl) rfl ?_
  refine zr_aload_n F zd_MD_load_10 rfl ?_
  refine zr_get F 1 5 zd_MD_load_11 (zu_s _ _ _) rfl (by decide) zw_1685 rfl (by rfl) ?_
  refine zr_callV0 F (c_MScene_clear l D tA b _ _ 1217 1218 0 0 0 0 0 0 0 g1 g2 g3 (by omega) ((zu_n _ (by omega)).trans hs) ((zu_n _ (by omega)).trans hg1) ((zu_n _ (by omega)).trans hg2) ((zu_n _ (by omega)).trans hg3)) zd_MD_load_14 ((zu_n _ (by omega)).trans hs) rfl zs_MD_77 rfl zq_MScene_clear rfl rfl ⟨(Nat.le_of_ble_eq_true rfl), (Nat.le_of_ble_eq_true rfl)⟩ (Nat.le_of_ble_eq_true rfl) ⟨(Nat.le_of_ble_eq_true rfl), (Nat.le_of_ble_eq_true rfl)⟩ ?_
  refine zr_norm (zu (zu (zu (zu (zu (f) 1185 (.inr (1, [.int w, .int h, .ref (b + 1186), .int 0, .ref (b + 1187), .ref (b + 1217), .ref (b + 1247), .ref (b + 1277), .ref (b + 1285), .ref (b + 1278), .int 0, .int 0, .int 0, .int 0, .ref (b + 1281), .int 0, .ref (b + 1282), .ref (b + 1283), .ref (b + 1284), .int (-1)]))) ((1218 + 26)) (.inl (tA 0, 3, .inl (zclr g1 3)))) ((1218 + 27)) (.inl (tA 0, 3, .inl (zclr g2 3)))) ((1218 + 28)) (.inl (tA 0, 3, .inl (ztow g3)))) 1217 (.inr (15, msO b 1218 0 0 0 0 0 32 16384))) _ (rfl) rfl ?_
  refine zr_aload_n F zd_MD_load_17 rfl ?_
  refine zr_get F 1 7 zd_MD_load_18 ((zu_n _ (by omega)).trans ((zu_n _ (by omega)).trans ((zu_n _ (by omega)).trans ((zu_n _ (by omega)).trans (zu_s _ _ _))))) rfl (by decide) zw_1687 rfl (by rfl) ?_
  refine zr_iload_n F zd_MD_load_21 rfl ?_
  refine zr_callV0 F (e_MReader_read l D tA b _ _ 0 0 0 0 0 0 0 0 0 ((zu_n _ (by omega)).trans ((zu_n _ (by omega)).trans ((zu_n _ (by omega)).trans ((zu_n _ (by omega)).trans ((zu_n _ (by omega)).trans hrd))))) ) zd_MD_load_22 ((zu_n _ (by omega)).trans ((zu_n _ (by omega)).trans ((zu_n _ (by omega)).trans ((zu_n _ (by omega)).trans ((zu_n _ (by omega)).trans hrd))))) rfl zs_MD_90 rfl zq_MReader_read rfl rfl ⟨(Nat.le_of_ble_eq_true rfl), (Nat.le_of_ble_eq_true rfl)⟩ (Nat.le_of_ble_eq_true rfl) ⟨(Nat.le_of_ble_eq_true rfl), (Nat.le_of_ble_eq_true rfl)⟩ ?_
  refine zr_norm (zu (zu (zu (zu (zu (zu (f) 1185 (.inr (1, [.int w, .int h, .ref (b + 1186), .int 0, .ref (b + 1187), .ref (b + 1217), .ref (b + 1247), .ref (b + 1277), .ref (b + 1285), .ref (b + 1278), .int 0, .int 0, .int 0, .int 0, .ref (b + 1281), .int 0, .ref (b + 1282), .ref (b + 1283), .ref (b + 1284), .int (-1)]))) ((1218 + 26)) (.inl (tA 0, 3, .inl (zclr g1 3)))) ((1218 + 27)) (.inl (tA 0, 3, .inl (zclr g2 3)))) ((1218 + 28)) (.inl (tA 0, 3, .inl (ztow g3)))) 1217 (.inr (15, msO b 1218 0 0 0 0 0 32 16384))) 1277 (.inr (14, [.ref (b + 1186), .ref (b + 1217), .int 0, .int 0, .int 1, .int 0, .int 0, .int 0, .int 0, .int 0, .int 0]))) _ (rfl) rfl ?_
  refine zr_aload_n F zd_MD_load_25 rfl ?_
  refine zr_aload_n F zd_MD_load_26 rfl ?_
  refine zr_get F 1 7 zd_MD_load_27 ((zu_n _ (by omega)).trans ((zu_n _ (by omega)).trans ((zu_n _ (by omega)).trans ((zu_n _ (by omega)).trans ((zu_n _ (by omega)).trans (zu_s _ _ _)))))) rfl (by decide) zw_1687 rfl (by rfl) ?_
  refine zr_get F 14 4 zd_MD_load_30 (zu_s _ _ _) rfl (by decide) zw_1509 rfl (by rfl) ?_
  refine zr_put F 1 12 zd_MD_load_33 ((zu_n _ (by omega)).trans ((zu_n _ (by omega)).trans ((zu_n _ (by omega)).trans ((zu_n _ (by omega)).trans ((zu_n _ (by omega)).trans (zu_s _ _ _)))))) rfl (by decide) zw_1692 rfl rfl rfl rfl (by exact (Nat.le_of_ble_eq_true rfl)) ?_
  refine zr_norm (zu (zu (zu (zu (zu (zu (f) 1185 (.inr (1, [.int w, .int h, .ref (b + 1186), .int 0, .ref (b + 1187), .ref (b + 1217), .ref (b + 1247), .ref (b + 1277), .ref (b + 1285), .ref (b + 1278), .int 0, .int 0, .int 1, .int 0, .ref (b + 1281), .int 0, .ref (b + 1282), .ref (b + 1283), .ref (b + 1284), .int (-1)]))) ((1218 + 26)) (.inl (tA 0, 3, .inl (zclr g1 3)))) ((1218 + 27)) (.inl (tA 0, 3, .inl (zclr g2 3)))) ((1218 + 28)) (.inl (tA 0, 3, .inl (ztow g3)))) 1217 (.inr (15, msO b 1218 0 0 0 0 0 32 16384))) 1277 (.inr (14, [.ref (b + 1186), .ref (b + 1217), .int 0, .int 0, .int 1, .int 0, .int 0, .int 0, .int 0, .int 0, .int 0]))) _ (zu_mid5 (by omega) (by omega) (by omega) (by omega) (by omega)) rfl ?_
  refine zr_aload_n F zd_MD_load_36 rfl ?_
  refine zr_aload_n F zd_MD_load_37 rfl ?_
  refine zr_get F 1 7 zd_MD_load_38 ((zu_n _ (by omega)).trans ((zu_n _ (by omega)).trans ((zu_n _ (by omega)).trans ((zu_n _ (by omega)).trans ((zu_n _ (by omega)).trans (zu_s _ _ _)))))) rfl (by decide) zw_1687 rfl (by rfl) ?_
  refine zr_get F 14 5 zd_MD_load_41 (zu_s _ _ _) rfl (by decide) zw_1511 rfl (by rfl) ?_
  refine zr_put F 1 13 zd_MD_load_44 ((zu_n _ (by omega)).trans ((zu_n _ (by omega)).trans ((zu_n _ (by omega)).trans ((zu_n _ (by omega)).trans ((zu_n _ (by omega)).trans (zu_s _ _ _)))))) rfl (by decide) zw_1693 rfl rfl rfl rfl (by exact (Nat.le_of_ble_eq_true rfl)) ?_
  refine zr_norm (zu (zu (zu (zu (zu (zu (f) 1185 (.inr (1, [.int w, .int h, .ref (b + 1186), .int 0, .ref (b + 1187), .ref (b + 1217), .ref (b + 1247), .ref (b + 1277), .ref (b + 1285), .ref (b + 1278), .int 0, .int 0, .int 1, .int 0, .ref (b + 1281), .int 0, .ref (b + 1282), .ref (b + 1283), .ref (b + 1284), .int (-1)]))) ((1218 + 26)) (.inl (tA 0, 3, .inl (zclr g1 3)))) ((1218 + 27)) (.inl (tA 0, 3, .inl (zclr g2 3)))) ((1218 + 28)) (.inl (tA 0, 3, .inl (ztow g3)))) 1217 (.inr (15, msO b 1218 0 0 0 0 0 32 16384))) 1277 (.inr (14, [.ref (b + 1186), .ref (b + 1217), .int 0, .int 0, .int 1, .int 0, .int 0, .int 0, .int 0, .int 0, .int 0]))) _ (zu_mid5 (by omega) (by omega) (by omega) (by omega) (by omega)) rfl ?_
  refine zr_aload_n F zd_MD_load_47 rfl ?_
  refine zr_aload_n F zd_MD_load_48 rfl ?_
  refine zr_get F 1 12 zd_MD_load_49 ((zu_n _ (by omega)).trans ((zu_n _ (by omega)).trans ((zu_n _ (by omega)).trans ((zu_n _ (by omega)).trans ((zu_n _ (by omega)).trans (zu_s _ _ _)))))) rfl (by decide) zw_1692 rfl (by rfl) ?_
  refine zr_if_ne F 59 zd_MD_load_52 (by decide) (fun _ => ?_) (fun h => absurd h (by decide))
  refine zr_iconstv (v := 1) F zd_MD_load_59 (by decide) ?_
  refine zr_put F 1 11 zd_MD_load_60 ((zu_n _ (by omega)).trans ((zu_n _ (by omega)).trans ((zu_n _ (by omega)).trans ((zu_n _ (by omega)).trans ((zu_n _ (by omega)).trans (zu_s _ _ _)))))) rfl (by decide) zw_1691 rfl rfl rfl rfl (by exact (Nat.le_of_ble_eq_true rfl)) ?_
  refine zr_norm (zu (zu (zu (zu (zu (zu (f) 1185 (.inr (1, [.int w, .int h, .ref (b + 1186), .int 0, .ref (b + 1187), .ref (b + 1217), .ref (b + 1247), .ref (b + 1277), .ref (b + 1285), .ref (b + 1278), .int 0, .int 1, .int 1, .int 0, .ref (b + 1281), .int 0, .ref (b + 1282), .ref (b + 1283), .ref (b + 1284), .int (-1)]))) ((1218 + 26)) (.inl (tA 0, 3, .inl (zclr g1 3)))) ((1218 + 27)) (.inl (tA 0, 3, .inl (zclr g2 3)))) ((1218 + 28)) (.inl (tA 0, 3, .inl (ztow g3)))) 1217 (.inr (15, msO b 1218 0 0 0 0 0 32 16384))) 1277 (.inr (14, [.ref (b + 1186), .ref (b + 1217), .int 0, .int 0, .int 1, .int 0, .int 0, .int 0, .int 0, .int 0, .int 0]))) _ (zu_mid5 (by omega) (by omega) (by omega) (by omega) (by omega)) rfl ?_
  refine zr_aload_n F zd_MD_load_63 rfl ?_
  refine zr_get F 1 11 zd_MD_load_64 ((zu_n _ (by omega)).trans ((zu_n _ (by omega)).trans ((zu_n _ (by omega)).trans ((zu_n _ (by omega)).trans ((zu_n _ (by omega)).trans (zu_s _ _ _)))))) rfl (by decide) zw_1691 rfl (by rfl) ?_
  refine zr_if_eq F 72 zd_MD_load_67 (by decide) (fun h => absurd h (by decide)) (fun _ => ?_)
  refine zr_iconstv (v := 0) F zd_MD_load_70 (by decide) ?_
  exact zr_iret F hr zd_MD_load_71 (Nat.le_of_ble_eq_true rfl) (Nat.le_of_ble_eq_true rfl) ⟨rfl, rfl, rfl⟩
abbrev zb_MD_time : ByteArray := prog_14_method_9_code
def zy_MD_time : MethodName := ⟨"OrreryBoxModel", "time", "(I)Z"⟩
theorem zc_MD_time : Cond.code zy_MD_time zb_MD_time 3 (some .boolean) ∈ gw := gw_t 1933 (by decide +kernel) rfl
theorem zq_MD_time : zy_MD_time.cls ≠ "java/lang/invoke/MethodHandle" ∧ zy_MD_time.cls ≠ "java/lang/invoke/VarHandle" ∧ (parseMethodDescriptor zy_MD_time.desc).map (fun d => d.parameters.length) = some 1 := by decide +kernel
theorem zd_MD_time_0 : decode zb_MD_time 0 = .ok (.aload_n 0, 1) := by decide +kernel
theorem zd_MD_time_1 : decode zb_MD_time 1 = .ok (.iconst 0, 1) := by decide +kernel
theorem zd_MD_time_2 : decode zb_MD_time 2 = .ok (.putfield 80, 3) := by decide +kernel
theorem zd_MD_time_5 : decode zb_MD_time 5 = .ok (.iload_n 1, 1) := by decide +kernel
theorem zd_MD_time_6 : decode zb_MD_time 6 = .ok (.ifCond .lt 9, 3) := by decide +kernel
theorem zd_MD_time_9 : decode zb_MD_time 9 = .ok (.iload_n 1, 1) := by decide +kernel
theorem zd_MD_time_10 : decode zb_MD_time 10 = .ok (.ldc 128, 2) := by decide +kernel
theorem zd_MD_time_12 : decode zb_MD_time 12 = .ok (.if_icmp .le 5, 3) := by decide +kernel
theorem zd_MD_time_15 : decode zb_MD_time 15 = .ok (.iconst 0, 1) := by decide +kernel
theorem zd_MD_time_16 : decode zb_MD_time 16 = .ok (.ireturn, 1) := by decide +kernel
theorem zd_MD_time_17 : decode zb_MD_time 17 = .ok (.aload_n 0, 1) := by decide +kernel
theorem zd_MD_time_18 : decode zb_MD_time 18 = .ok (.iload_n 1, 1) := by decide +kernel
theorem zd_MD_time_19 : decode zb_MD_time 19 = .ok (.putfield 110, 3) := by decide +kernel
theorem zd_MD_time_22 : decode zb_MD_time 22 = .ok (.iconst 0, 1) := by decide +kernel
theorem zd_MD_time_23 : decode zb_MD_time 23 = .ok (.istore_n 2, 1) := by decide +kernel
theorem zd_MD_time_24 : decode zb_MD_time 24 = .ok (.iload_n 2, 1) := by decide +kernel
theorem zd_MD_time_25 : decode zb_MD_time 25 = .ok (.aload_n 0, 1) := by decide +kernel
theorem zd_MD_time_26 : decode zb_MD_time 26 = .ok (.getfield 17, 3) := by decide +kernel
theorem zd_MD_time_29 : decode zb_MD_time 29 = .ok (.getfield 125, 3) := by decide +kernel
theorem zd_MD_time_32 : decode zb_MD_time 32 = .ok (.if_icmp .ge 18, 3) := by decide +kernel
theorem zd_MD_time_35 : decode zb_MD_time 35 = .ok (.aload_n 0, 1) := by decide +kernel
theorem zd_MD_time_36 : decode zb_MD_time 36 = .ok (.getfield 17, 3) := by decide +kernel
theorem zd_MD_time_39 : decode zb_MD_time 39 = .ok (.iload_n 2, 1) := by decide +kernel
theorem zd_MD_time_40 : decode zb_MD_time 40 = .ok (.iload_n 1, 1) := by decide +kernel
theorem zd_MD_time_41 : decode zb_MD_time 41 = .ok (.invokevirtual 129, 3) := by decide +kernel
theorem zd_MD_time_44 : decode zb_MD_time 44 = .ok (.iinc 2 1, 3) := by decide +kernel
theorem zd_MD_time_47 : decode zb_MD_time 47 = .ok (.goto (-23), 3) := by decide +kernel
theorem zd_MD_time_50 : decode zb_MD_time 50 = .ok (.iconst 1, 1) := by decide +kernel
theorem zd_MD_time_51 : decode zb_MD_time 51 = .ok (.ireturn, 1) := by decide +kernel
theorem zw_1934 : (Jvm.Cond.constant "OrreryBoxModel" (128 : Nat) (1000000 : Int32)) ∈ gw := gw_t 1934 (by decide +kernel) rfl
def sp_e_MD_time (t : Int32) (w : Int32) (h : Int32) : Int32 := (if t < 0 then 0 else (if t ≤ 1000000 then 1 else 0))
def sw_e_MD_time (tA : Nat → ClassId) (b : Nat) (f : zV) (t : Int32) (w : Int32) (h : Int32) : zV := (if t < 0 then (zu (f) 1185 (.inr (1, [.int w, .int h, .ref (b + 1186), .int 0, .ref (b + 1187), .ref (b + 1217), .ref (b + 1247), .ref (b + 1277), .ref (b + 1285), .ref (b + 1278), .int 0, .int 0, .int 0, .int 0, .ref (b + 1281), .int 0, .ref (b + 1282), .ref (b + 1283), .ref (b + 1284), .int (-1)]))) else (if t ≤ 1000000 then (zu (f) 1185 (.inr (1, [.int w, .int h, .ref (b + 1186), .int 0, .ref (b + 1187), .ref (b + 1217), .ref (b + 1247), .ref (b + 1277), .ref (b + 1285), .ref (b + 1278), .int t, .int 0, .int 0, .int 0, .ref (b + 1281), .int 0, .ref (b + 1282), .ref (b + 1283), .ref (b + 1284), .int (-1)]))) else (zu (f) 1185 (.inr (1, [.int w, .int h, .ref (b + 1186), .int 0, .ref (b + 1187), .ref (b + 1217), .ref (b + 1247), .ref (b + 1277), .ref (b + 1285), .ref (b + 1278), .int 0, .int 0, .int 0, .int 0, .ref (b + 1281), .int 0, .ref (b + 1282), .ref (b + 1283), .ref (b + 1284), .int (-1)])))))
theorem swn_e_MD_time {tA : Nat → ClassId} {b : Nat} {f : zV} {t : Int32} {w : Int32} {h : Int32} {ka : Nat} (h0 : ka ≠ 1185) : sw_e_MD_time tA b f t w h ka = f ka := by
  unfold sw_e_MD_time
  repeat' split
  all_goals first | rfl | simp only [zu_n _ h0]
set_option maxHeartbeats 4000000 in
set_option maxRecDepth 100000 in
theorem e_MD_time (l : Launch) (D : va_G) (tA : Nat → ClassId) (b : Nat) (f : zV) (n : Nat) (t : Int32) (w : Int32) (h : Int32) (h0 : f 1185 = some (.inr (1, [.int w, .int h, .ref (b + 1186), .int 0, .ref (b + 1187), .ref (b + 1217), .ref (b + 1247), .ref (b + 1277), .ref (b + 1285), .ref (b + 1278), .int 0, .int 0, .int 0, .int 0, .ref (b + 1281), .int 0, .ref (b + 1282), .ref (b + 1283), .ref (b + 1284), .int (-1)]))) (hs : f 1187 = some (.inr (15, msO b 1188 0 0 0 0 0 32 16384)))  : zM l D tA b zy_MD_time zb_MD_time 3 (some .boolean) 0 0 0 0 [.ref (b + 1185), .int t] f n (zE (some (.int (sp_e_MD_time t w h))) (sw_e_MD_time tA b f t w h) n) := by
  refine zM_of (own := "OrreryBoxModel") (plainFor_of_name (by decide)) rfl (Nat.le_of_ble_eq_true rfl) (fun p e s m below meth c F hr hin hH => ?_)
  refine zr_aload_n F zd_MD_time_0 rfl ?_
  refine zr_iconstv (v := 0) F zd_MD_time_1 (by decide) ?_
  refine zr_put F 1 11 zd_MD_time_2 h0 rfl (by decide) zw_1691 rfl rfl rfl rfl (by exact (Nat.le_of_ble_eq_true rfl)) ?_
  refine zr_norm (zu (f) 1185 (.inr (1, [.int w, .int h, .ref (b + 1186), .int 0, .ref (b + 1187), .ref (b + 1217), .ref (b + 1247), .ref (b + 1277), .ref (b + 1285), .ref (b + 1278), .int 0, .int 0, .int 0, .int 0, .ref (b + 1281), .int 0, .ref (b + 1282), .ref (b + 1283), .ref (b + 1284), .int (-1)]))) _ (rfl) rfl ?_
  refine zr_iload_n F zd_MD_time_5 rfl ?_
  refine zr_if_lt F 15 zd_MD_time_6 (by decide) (fun h1 => ?_) (fun h1 => ?_)
  ·
    refine zr_iconstv (v := 0) F zd_MD_time_15 (by decide) ?_
    exact zr_zret F hr rfl zd_MD_time_16 (Nat.le_of_ble_eq_true rfl) (Nat.le_of_ble_eq_true rfl) ⟨by rw [sp_e_MD_time, if_pos h1], by rw [sw_e_MD_time, if_pos h1], rfl⟩
  ·
    refine zr_iload_n F zd_MD_time_9 rfl ?_
    refine zr_ldc F zd_MD_time_10 zw_1934 ?_
    refine zr_icmp_le F 17 zd_MD_time_12 (by decide) (fun h2 => ?_) (fun h2 => ?_)
    ·
      refine zr_aload_n F zd_MD_time_17 rfl ?_
      refine zr_iload_n F zd_MD_time_18 rfl ?_
      refine zr_put F 1 10 zd_MD_time_19 (zu_s _ _ _) rfl (by decide) zw_1690 rfl rfl rfl rfl (by exact (Nat.le_of_ble_eq_true rfl)) ?_
      refine zr_norm (zu (f) 1185 (.inr (1, [.int w, .int h, .ref (b + 1186), .int 0, .ref (b + 1187), .ref (b + 1217), .ref (b + 1247), .ref (b + 1277), .ref (b + 1285), .ref (b + 1278), .int t, .int 0, .int 0, .int 0, .ref (b + 1281), .int 0, .ref (b + 1282), .ref (b + 1283), .ref (b + 1284), .int (-1)]))) _ (zu_zu _ _ _ _) rfl ?_
      refine zr_iconstv (v := 0) F zd_MD_time_22 (by decide) ?_
      refine zr_istore_n F zd_MD_time_23 (by decide) ?_
      refine zr_iload_n F zd_MD_time_24 rfl ?_
      refine zr_aload_n F zd_MD_time_25 rfl ?_
      refine zr_get F 1 4 zd_MD_time_26 (zu_s _ _ _) rfl (by decide) zw_1684 rfl (by rfl) ?_
      refine zr_get F 15 4 zd_MD_time_29 ((zu_n _ (by omega)).trans hs) rfl (by decide) zw_1329 rfl (by rfl) ?_
      refine zr_icmp_ge F 50 zd_MD_time_32 (by decide) (fun _ => ?_) (fun h => absurd h (by decide))
      refine zr_iconstv (v := 1) F zd_MD_time_50 (by decide) ?_
      exact zr_zret F hr rfl zd_MD_time_51 (Nat.le_of_ble_eq_true rfl) (Nat.le_of_ble_eq_true rfl) ⟨by rw [sp_e_MD_time, if_neg h1, if_pos h2], by rw [sw_e_MD_time, if_neg h1, if_pos h2], rfl⟩
    ·
      refine zr_iconstv (v := 0) F zd_MD_time_15 (by decide) ?_
      exact zr_zret F hr rfl zd_MD_time_16 (Nat.le_of_ble_eq_true rfl) (Nat.le_of_ble_eq_true rfl) ⟨by rw [sp_e_MD_time, if_neg h1, if_neg h2], by rw [sw_e_MD_time, if_neg h1, if_neg h2], rfl⟩
abbrev zb_MD_set : ByteArray := prog_14_method_11_code
def zy_MD_set : MethodName := ⟨"OrreryBoxModel", "set", "(IIIII)Z"⟩
theorem zc_MD_set : Cond.code zy_MD_set zb_MD_set 7 (some .boolean) ∈ gw := gw_t 1959 (by decide +kernel) rfl
theorem zq_MD_set : zy_MD_set.cls ≠ "java/lang/invoke/MethodHandle" ∧ zy_MD_set.cls ≠ "java/lang/invoke/VarHandle" ∧ (parseMethodDescriptor zy_MD_set.desc).map (fun d => d.parameters.length) = some 5 := by decide +kernel
theorem zd_MD_set_0 : decode zb_MD_set 0 = .ok (.aload_n 0, 1) := by decide +kernel
theorem zd_MD_set_1 : decode zb_MD_set 1 = .ok (.iconst 0, 1) := by decide +kernel
theorem zd_MD_set_2 : decode zb_MD_set 2 = .ok (.putfield 80, 3) := by decide +kernel
theorem zd_MD_set_5 : decode zb_MD_set 5 = .ok (.iload_n 1, 1) := by decide +kernel
theorem zd_MD_set_6 : decode zb_MD_set 6 = .ok (.ifCond .lt 45, 3) := by decide +kernel
theorem zd_MD_set_9 : decode zb_MD_set 9 = .ok (.iload_n 1, 1) := by decide +kernel
theorem zd_MD_set_10 : decode zb_MD_set 10 = .ok (.aload_n 0, 1) := by decide +kernel
theorem zd_MD_set_11 : decode zb_MD_set 11 = .ok (.getfield 17, 3) := by decide +kernel
theorem zd_MD_set_14 : decode zb_MD_set 14 = .ok (.getfield 113, 3) := by decide +kernel
theorem zd_MD_set_17 : decode zb_MD_set 17 = .ok (.if_icmp .ge 34, 3) := by decide +kernel
theorem zd_MD_set_20 : decode zb_MD_set 20 = .ok (.iload_n 2, 1) := by decide +kernel
theorem zd_MD_set_21 : decode zb_MD_set 21 = .ok (.ifCond .lt 30, 3) := by decide +kernel
theorem zd_MD_set_24 : decode zb_MD_set 24 = .ok (.iload_n 2, 1) := by decide +kernel
theorem zd_MD_set_25 : decode zb_MD_set 25 = .ok (.iconst 2, 1) := by decide +kernel
theorem zd_MD_set_26 : decode zb_MD_set 26 = .ok (.if_icmp .gt 25, 3) := by decide +kernel
theorem zd_MD_set_29 : decode zb_MD_set 29 = .ok (.iload_n 3, 1) := by decide +kernel
theorem zd_MD_set_30 : decode zb_MD_set 30 = .ok (.iload 4, 2) := by decide +kernel
theorem zd_MD_set_32 : decode zb_MD_set 32 = .ok (.iload 5, 2) := by decide +kernel
theorem zd_MD_set_34 : decode zb_MD_set 34 = .ok (.iload_n 2, 1) := by decide +kernel
theorem zd_MD_set_35 : decode zb_MD_set 35 = .ok (.ifCond .ne 8, 3) := by decide +kernel
theorem zd_MD_set_38 : decode zb_MD_set 38 = .ok (.ldc 133, 2) := by decide +kernel
theorem zd_MD_set_40 : decode zb_MD_set 40 = .ok (.goto 5, 3) := by decide +kernel
theorem zd_MD_set_43 : decode zb_MD_set 43 = .ok (.ldc 134, 2) := by decide +kernel
theorem zd_MD_set_45 : decode zb_MD_set 45 = .ok (.invokestatic 135, 3) := by decide +kernel
theorem zd_MD_set_48 : decode zb_MD_set 48 = .ok (.ifCond .ne 5, 3) := by decide +kernel
theorem zd_MD_set_51 : decode zb_MD_set 51 = .ok (.iconst 0, 1) := by decide +kernel
theorem zd_MD_set_52 : decode zb_MD_set 52 = .ok (.ireturn, 1) := by decide +kernel
theorem zd_MD_set_53 : decode zb_MD_set 53 = .ok (.aload_n 0, 1) := by decide +kernel
theorem zd_MD_set_54 : decode zb_MD_set 54 = .ok (.getfield 17, 3) := by decide +kernel
theorem zd_MD_set_57 : decode zb_MD_set 57 = .ok (.iload_n 2, 1) := by decide +kernel
theorem zd_MD_set_58 : decode zb_MD_set 58 = .ok (.invokevirtual 139, 3) := by decide +kernel
theorem zd_MD_set_61 : decode zb_MD_set 61 = .ok (.astore 6, 2) := by decide +kernel
theorem zd_MD_set_63 : decode zb_MD_set 63 = .ok (.aload 6, 2) := by decide +kernel
theorem zd_MD_set_65 : decode zb_MD_set 65 = .ok (.iconst 3, 1) := by decide +kernel
theorem zd_MD_set_66 : decode zb_MD_set 66 = .ok (.iload_n 1, 1) := by decide +kernel
theorem zd_MD_set_67 : decode zb_MD_set 67 = .ok (.imul, 1) := by decide +kernel
theorem zd_MD_set_68 : decode zb_MD_set 68 = .ok (.iload_n 3, 1) := by decide +kernel
theorem zd_MD_set_69 : decode zb_MD_set 69 = .ok (.iastore, 1) := by decide +kernel
theorem zd_MD_set_70 : decode zb_MD_set 70 = .ok (.aload 6, 2) := by decide +kernel
theorem zd_MD_set_72 : decode zb_MD_set 72 = .ok (.iconst 3, 1) := by decide +kernel
theorem zd_MD_set_73 : decode zb_MD_set 73 = .ok (.iload_n 1, 1) := by decide +kernel
theorem zd_MD_set_74 : decode zb_MD_set 74 = .ok (.imul, 1) := by decide +kernel
theorem zd_MD_set_75 : decode zb_MD_set 75 = .ok (.iconst 1, 1) := by decide +kernel
theorem zd_MD_set_76 : decode zb_MD_set 76 = .ok (.iadd, 1) := by decide +kernel
theorem zd_MD_set_77 : decode zb_MD_set 77 = .ok (.iload 4, 2) := by decide +kernel
theorem zd_MD_set_79 : decode zb_MD_set 79 = .ok (.iastore, 1) := by decide +kernel
theorem zd_MD_set_80 : decode zb_MD_set 80 = .ok (.aload 6, 2) := by decide +kernel
theorem zd_MD_set_82 : decode zb_MD_set 82 = .ok (.iconst 3, 1) := by decide +kernel
theorem zd_MD_set_83 : decode zb_MD_set 83 = .ok (.iload_n 1, 1) := by decide +kernel
theorem zd_MD_set_84 : decode zb_MD_set 84 = .ok (.imul, 1) := by decide +kernel
theorem zd_MD_set_85 : decode zb_MD_set 85 = .ok (.iconst 2, 1) := by decide +kernel
theorem zd_MD_set_86 : decode zb_MD_set 86 = .ok (.iadd, 1) := by decide +kernel
theorem zd_MD_set_87 : decode zb_MD_set 87 = .ok (.iload 5, 2) := by decide +kernel
theorem zd_MD_set_89 : decode zb_MD_set 89 = .ok (.iastore, 1) := by decide +kernel
theorem zd_MD_set_90 : decode zb_MD_set 90 = .ok (.iconst 1, 1) := by decide +kernel
theorem zd_MD_set_91 : decode zb_MD_set 91 = .ok (.ireturn, 1) := by decide +kernel
set_option maxHeartbeats 4000000 in
set_option maxRecDepth 100000 in
theorem e_MD_set (l : Launch) (D : va_G) (tA : Nat → ClassId) (b : Nat) (f : zV) (n : Nat) (k : Int32) (what : Int32) (x : Int32) (y : Int32) (z : Int32) (w : Int32) (h : Int32) (h0 : f 1185 = some (.inr (1, [.int w, .int h, .ref (b + 1186), .int 0, .ref (b + 1187), .ref (b + 1217), .ref (b + 1247), .ref (b + 1277), .ref (b + 1285), .ref (b + 1278), .int 0, .int 0, .int 0, .int 0, .ref (b + 1281), .int 0, .ref (b + 1282), .ref (b + 1283), .ref (b + 1284), .int (-1)]))) (hs : f 1187 = some (.inr (15, msO b 1188 0 0 0 0 0 32 16384)))  : zM l D tA b zy_MD_set zb_MD_set 7 (some .boolean) 0 0 0 0 [.ref (b + 1185), .int k, .int what, .int x, .int y, .int z] f n (zE (some (.int 0)) (zu (f) 1185 (.inr (1, [.int w, .int h, .ref (b + 1186), .int 0, .ref (b + 1187), .ref (b + 1217), .ref (b + 1247), .ref (b + 1277), .ref (b + 1285), .ref (b + 1278), .int 0, .int 0, .int 0, .int 0, .ref (b + 1281), .int 0, .ref (b + 1282), .ref (b + 1283), .ref (b + 1284), .int (-1)]))) n) := by
  refine zM_of (own := "OrreryBoxModel") (plainFor_of_name (by decide)) rfl (Nat.le_of_ble_eq_true rfl) (fun p e s m below meth c F hr hin hH => ?_)
  refine zr_aload_n F zd_MD_set_0 rfl ?_
  refine zr_iconstv (v := 0) F zd_MD_set_1 (by decide) ?_
  refine zr_put F 1 11 zd_MD_set_2 h0 rfl (by decide) zw_1691 rfl rfl rfl rfl (by exact (Nat.le_of_ble_eq_true rfl)) ?_
  refine zr_norm (zu (f) 1185 (.inr (1, [.int w, .int h, .ref (b + 1186), .int 0, .ref (b + 1187), .ref (b + 1217), .ref (b + 1247), .ref (b + 1277), .ref (b + 1285), .ref (b + 1278), .int 0, .int 0, .int 0, .int 0, .ref (b + 1281), .int 0, .ref (b + 1282), .ref (b + 1283), .ref (b + 1284), .int (-1)]))) _ (rfl) rfl ?_
  refine zr_iload_n F zd_MD_set_5 rfl ?_
  refine zr_if_lt F 51 zd_MD_set_6 (by decide) (fun h1 => ?_) (fun h1 => ?_)
  ·
    refine zr_iconstv (v := 0) F zd_MD_set_51 (by decide) ?_
    exact zr_zret F hr rfl zd_MD_set_52 (Nat.le_of_ble_eq_true rfl) (Nat.le_of_ble_eq_true rfl) ⟨rfl, rfl, rfl⟩
  ·
    refine zr_iload_n F zd_MD_set_9 rfl ?_
    refine zr_aload_n F zd_MD_set_10 rfl ?_
    refine zr_get F 1 4 zd_MD_set_11 (zu_s _ _ _) rfl (by decide) zw_1684 rfl (by rfl) ?_
    refine zr_get F 15 3 zd_MD_set_14 ((zu_n _ (by omega)).trans hs) rfl (by decide) zw_1325 rfl (by rfl) ?_
    refine zr_icmp_ge F 51 zd_MD_set_17 (by decide) (fun _ => ?_) (fun h => absurd h (zx_nn h1))
    refine zr_iconstv (v := 0) F zd_MD_set_51 (by decide) ?_
    exact zr_zret F hr rfl zd_MD_set_52 (Nat.le_of_ble_eq_true rfl) (Nat.le_of_ble_eq_true rfl) ⟨rfl, rfl, rfl⟩
abbrev zb_MD_hang : ByteArray := prog_14_method_12_code
def zy_MD_hang : MethodName := ⟨"OrreryBoxModel", "hang", "(II)Z"⟩
theorem zc_MD_hang : Cond.code zy_MD_hang zb_MD_hang 3 (some .boolean) ∈ gw := gw_t 1969 (by decide +kernel) rfl
theorem zq_MD_hang : zy_MD_hang.cls ≠ "java/lang/invoke/MethodHandle" ∧ zy_MD_hang.cls ≠ "java/lang/invoke/VarHandle" ∧ (parseMethodDescriptor zy_MD_hang.desc).map (fun d => d.parameters.length) = some 2 := by decide +kernel
theorem zd_MD_hang_0 : decode zb_MD_hang 0 = .ok (.aload_n 0, 1) := by decide +kernel
theorem zd_MD_hang_1 : decode zb_MD_hang 1 = .ok (.iconst 0, 1) := by decide +kernel
theorem zd_MD_hang_2 : decode zb_MD_hang 2 = .ok (.putfield 80, 3) := by decide +kernel
theorem zd_MD_hang_5 : decode zb_MD_hang 5 = .ok (.iload_n 1, 1) := by decide +kernel
theorem zd_MD_hang_6 : decode zb_MD_hang 6 = .ok (.ifCond .lt 24, 3) := by decide +kernel
theorem zd_MD_hang_9 : decode zb_MD_hang 9 = .ok (.iload_n 1, 1) := by decide +kernel
theorem zd_MD_hang_10 : decode zb_MD_hang 10 = .ok (.aload_n 0, 1) := by decide +kernel
theorem zd_MD_hang_11 : decode zb_MD_hang 11 = .ok (.getfield 17, 3) := by decide +kernel
theorem zd_MD_hang_14 : decode zb_MD_hang 14 = .ok (.getfield 113, 3) := by decide +kernel
theorem zd_MD_hang_17 : decode zb_MD_hang 17 = .ok (.if_icmp .ge 13, 3) := by decide +kernel
theorem zd_MD_hang_20 : decode zb_MD_hang 20 = .ok (.iload_n 2, 1) := by decide +kernel
theorem zd_MD_hang_21 : decode zb_MD_hang 21 = .ok (.iconst (-1), 1) := by decide +kernel
theorem zd_MD_hang_22 : decode zb_MD_hang 22 = .ok (.if_icmp .lt 8, 3) := by decide +kernel
theorem zd_MD_hang_25 : decode zb_MD_hang 25 = .ok (.iload_n 2, 1) := by decide +kernel
theorem zd_MD_hang_26 : decode zb_MD_hang 26 = .ok (.iload_n 1, 1) := by decide +kernel
theorem zd_MD_hang_27 : decode zb_MD_hang 27 = .ok (.if_icmp .lt 5, 3) := by decide +kernel
theorem zd_MD_hang_30 : decode zb_MD_hang 30 = .ok (.iconst 0, 1) := by decide +kernel
theorem zd_MD_hang_31 : decode zb_MD_hang 31 = .ok (.ireturn, 1) := by decide +kernel
theorem zd_MD_hang_32 : decode zb_MD_hang 32 = .ok (.aload_n 0, 1) := by decide +kernel
theorem zd_MD_hang_33 : decode zb_MD_hang 33 = .ok (.getfield 17, 3) := by decide +kernel
theorem zd_MD_hang_36 : decode zb_MD_hang 36 = .ok (.getfield 143, 3) := by decide +kernel
theorem zd_MD_hang_39 : decode zb_MD_hang 39 = .ok (.iload_n 1, 1) := by decide +kernel
theorem zd_MD_hang_40 : decode zb_MD_hang 40 = .ok (.iload_n 2, 1) := by decide +kernel
theorem zd_MD_hang_41 : decode zb_MD_hang 41 = .ok (.iastore, 1) := by decide +kernel
theorem zd_MD_hang_42 : decode zb_MD_hang 42 = .ok (.iconst 1, 1) := by decide +kernel
theorem zd_MD_hang_43 : decode zb_MD_hang 43 = .ok (.ireturn, 1) := by decide +kernel
set_option maxHeartbeats 4000000 in
set_option maxRecDepth 100000 in
theorem e_MD_hang (l : Launch) (D : va_G) (tA : Nat → ClassId) (b : Nat) (f : zV) (n : Nat) (k : Int32) (x : Int32) (w : Int32) (h : Int32) (h0 : f 1185 = some (.inr (1, [.int w, .int h, .ref (b + 1186), .int 0, .ref (b + 1187), .ref (b + 1217), .ref (b + 1247), .ref (b + 1277), .ref (b + 1285), .ref (b + 1278), .int 0, .int 0, .int 0, .int 0, .ref (b + 1281), .int 0, .ref (b + 1282), .ref (b + 1283), .ref (b + 1284), .int (-1)]))) (hs : f 1187 = some (.inr (15, msO b 1188 0 0 0 0 0 32 16384)))  : zM l D tA b zy_MD_hang zb_MD_hang 3 (some .boolean) 0 0 0 0 [.ref (b + 1185), .int k, .int x] f n (zE (some (.int 0)) (zu (f) 1185 (.inr (1, [.int w, .int h, .ref (b + 1186), .int 0, .ref (b + 1187), .ref (b + 1217), .ref (b + 1247), .ref (b + 1277), .ref (b + 1285), .ref (b + 1278), .int 0, .int 0, .int 0, .int 0, .ref (b + 1281), .int 0, .ref (b + 1282), .ref (b + 1283), .ref (b + 1284), .int (-1)]))) n) := by
  refine zM_of (own := "OrreryBoxModel") (plainFor_of_name (by decide)) rfl (Nat.le_of_ble_eq_true rfl) (fun p e s m below meth c F hr hin hH => ?_)
  refine zr_aload_n F zd_MD_hang_0 rfl ?_
  refine zr_iconstv (v := 0) F zd_MD_hang_1 (by decide) ?_
  refine zr_put F 1 11 zd_MD_hang_2 h0 rfl (by decide) zw_1691 rfl rfl rfl rfl (by exact (Nat.le_of_ble_eq_true rfl)) ?_
  refine zr_norm (zu (f) 1185 (.inr (1, [.int w, .int h, .ref (b + 1186), .int 0, .ref (b + 1187), .ref (b + 1217), .ref (b + 1247), .ref (b + 1277), .ref (b + 1285), .ref (b + 1278), .int 0, .int 0, .int 0, .int 0, .ref (b + 1281), .int 0, .ref (b + 1282), .ref (b + 1283), .ref (b + 1284), .int (-1)]))) _ (rfl) rfl ?_
  refine zr_iload_n F zd_MD_hang_5 rfl ?_
  refine zr_if_lt F 30 zd_MD_hang_6 (by decide) (fun h1 => ?_) (fun h1 => ?_)
  ·
    refine zr_iconstv (v := 0) F zd_MD_hang_30 (by decide) ?_
    exact zr_zret F hr rfl zd_MD_hang_31 (Nat.le_of_ble_eq_true rfl) (Nat.le_of_ble_eq_true rfl) ⟨rfl, rfl, rfl⟩
  ·
    refine zr_iload_n F zd_MD_hang_9 rfl ?_
    refine zr_aload_n F zd_MD_hang_10 rfl ?_
    refine zr_get F 1 4 zd_MD_hang_11 (zu_s _ _ _) rfl (by decide) zw_1684 rfl (by rfl) ?_
    refine zr_get F 15 3 zd_MD_hang_14 ((zu_n _ (by omega)).trans hs) rfl (by decide) zw_1325 rfl (by rfl) ?_
    refine zr_icmp_ge F 30 zd_MD_hang_17 (by decide) (fun _ => ?_) (fun h => absurd h (zx_nn h1))
    refine zr_iconstv (v := 0) F zd_MD_hang_30 (by decide) ?_
    exact zr_zret F hr rfl zd_MD_hang_31 (Nat.le_of_ble_eq_true rfl) (Nat.le_of_ble_eq_true rfl) ⟨rfl, rfl, rfl⟩
abbrev zb_MD_hide : ByteArray := prog_14_method_13_code
def zy_MD_hide : MethodName := ⟨"OrreryBoxModel", "hide", "(IZ)Z"⟩
theorem zc_MD_hide : Cond.code zy_MD_hide zb_MD_hide 3 (some .boolean) ∈ gw := gw_t 1973 (by decide +kernel) rfl
theorem zq_MD_hide : zy_MD_hide.cls ≠ "java/lang/invoke/MethodHandle" ∧ zy_MD_hide.cls ≠ "java/lang/invoke/VarHandle" ∧ (parseMethodDescriptor zy_MD_hide.desc).map (fun d => d.parameters.length) = some 2 := by decide +kernel
theorem zd_MD_hide_0 : decode zb_MD_hide 0 = .ok (.aload_n 0, 1) := by decide +kernel
theorem zd_MD_hide_1 : decode zb_MD_hide 1 = .ok (.iconst 0, 1) := by decide +kernel
theorem zd_MD_hide_2 : decode zb_MD_hide 2 = .ok (.putfield 80, 3) := by decide +kernel
theorem zd_MD_hide_5 : decode zb_MD_hide 5 = .ok (.iload_n 1, 1) := by decide +kernel
theorem zd_MD_hide_6 : decode zb_MD_hide 6 = .ok (.ifCond .lt 14, 3) := by decide +kernel
theorem zd_MD_hide_9 : decode zb_MD_hide 9 = .ok (.iload_n 1, 1) := by decide +kernel
theorem zd_MD_hide_10 : decode zb_MD_hide 10 = .ok (.aload_n 0, 1) := by decide +kernel
theorem zd_MD_hide_11 : decode zb_MD_hide 11 = .ok (.getfield 17, 3) := by decide +kernel
theorem zd_MD_hide_14 : decode zb_MD_hide 14 = .ok (.getfield 113, 3) := by decide +kernel
theorem zd_MD_hide_17 : decode zb_MD_hide 17 = .ok (.if_icmp .lt 5, 3) := by decide +kernel
theorem zd_MD_hide_20 : decode zb_MD_hide 20 = .ok (.iconst 0, 1) := by decide +kernel
theorem zd_MD_hide_21 : decode zb_MD_hide 21 = .ok (.ireturn, 1) := by decide +kernel
theorem zd_MD_hide_22 : decode zb_MD_hide 22 = .ok (.aload_n 0, 1) := by decide +kernel
theorem zd_MD_hide_23 : decode zb_MD_hide 23 = .ok (.getfield 17, 3) := by decide +kernel
theorem zd_MD_hide_26 : decode zb_MD_hide 26 = .ok (.getfield 146, 3) := by decide +kernel
theorem zd_MD_hide_29 : decode zb_MD_hide 29 = .ok (.iload_n 1, 1) := by decide +kernel
theorem zd_MD_hide_30 : decode zb_MD_hide 30 = .ok (.iload_n 2, 1) := by decide +kernel
theorem zd_MD_hide_31 : decode zb_MD_hide 31 = .ok (.bastore, 1) := by decide +kernel
theorem zd_MD_hide_32 : decode zb_MD_hide 32 = .ok (.iconst 1, 1) := by decide +kernel
theorem zd_MD_hide_33 : decode zb_MD_hide 33 = .ok (.ireturn, 1) := by decide +kernel
set_option maxHeartbeats 4000000 in
set_option maxRecDepth 100000 in
theorem e_MD_hide (l : Launch) (D : va_G) (tA : Nat → ClassId) (b : Nat) (f : zV) (n : Nat) (k : Int32) (x : Int32) (w : Int32) (h : Int32) (h0 : f 1185 = some (.inr (1, [.int w, .int h, .ref (b + 1186), .int 0, .ref (b + 1187), .ref (b + 1217), .ref (b + 1247), .ref (b + 1277), .ref (b + 1285), .ref (b + 1278), .int 0, .int 0, .int 0, .int 0, .ref (b + 1281), .int 0, .ref (b + 1282), .ref (b + 1283), .ref (b + 1284), .int (-1)]))) (hs : f 1187 = some (.inr (15, msO b 1188 0 0 0 0 0 32 16384)))  : zM l D tA b zy_MD_hide zb_MD_hide 3 (some .boolean) 0 0 0 0 [.ref (b + 1185), .int k, .int x] f n (zE (some (.int 0)) (zu (f) 1185 (.inr (1, [.int w, .int h, .ref (b + 1186), .int 0, .ref (b + 1187), .ref (b + 1217), .ref (b + 1247), .ref (b + 1277), .ref (b + 1285), .ref (b + 1278), .int 0, .int 0, .int 0, .int 0, .ref (b + 1281), .int 0, .ref (b + 1282), .ref (b + 1283), .ref (b + 1284), .int (-1)]))) n) := by
  refine zM_of (own := "OrreryBoxModel") (plainFor_of_name (by decide)) rfl (Nat.le_of_ble_eq_true rfl) (fun p e s m below meth c F hr hin hH => ?_)
  refine zr_aload_n F zd_MD_hide_0 rfl ?_
  refine zr_iconstv (v := 0) F zd_MD_hide_1 (by decide) ?_
  refine zr_put F 1 11 zd_MD_hide_2 h0 rfl (by decide) zw_1691 rfl rfl rfl rfl (by exact (Nat.le_of_ble_eq_true rfl)) ?_
  refine zr_norm (zu (f) 1185 (.inr (1, [.int w, .int h, .ref (b + 1186), .int 0, .ref (b + 1187), .ref (b + 1217), .ref (b + 1247), .ref (b + 1277), .ref (b + 1285), .ref (b + 1278), .int 0, .int 0, .int 0, .int 0, .ref (b + 1281), .int 0, .ref (b + 1282), .ref (b + 1283), .ref (b + 1284), .int (-1)]))) _ (rfl) rfl ?_
  refine zr_iload_n F zd_MD_hide_5 rfl ?_
  refine zr_if_lt F 20 zd_MD_hide_6 (by decide) (fun h1 => ?_) (fun h1 => ?_)
  ·
    refine zr_iconstv (v := 0) F zd_MD_hide_20 (by decide) ?_
    exact zr_zret F hr rfl zd_MD_hide_21 (Nat.le_of_ble_eq_true rfl) (Nat.le_of_ble_eq_true rfl) ⟨rfl, rfl, rfl⟩
  ·
    refine zr_iload_n F zd_MD_hide_9 rfl ?_
    refine zr_aload_n F zd_MD_hide_10 rfl ?_
    refine zr_get F 1 4 zd_MD_hide_11 (zu_s _ _ _) rfl (by decide) zw_1684 rfl (by rfl) ?_
    refine zr_get F 15 3 zd_MD_hide_14 ((zu_n _ (by omega)).trans hs) rfl (by decide) zw_1325 rfl (by rfl) ?_
    refine zr_icmp_lt F 22 zd_MD_hide_17 (by decide) (fun h => absurd h h1) (fun _ => ?_)
    refine zr_iconstv (v := 0) F zd_MD_hide_20 (by decide) ?_
    exact zr_zret F hr rfl zd_MD_hide_21 (Nat.le_of_ble_eq_true rfl) (Nat.le_of_ble_eq_true rfl) ⟨rfl, rfl, rfl⟩
abbrev zb_MD_world : ByteArray := prog_14_method_18_code
def zy_MD_world : MethodName := ⟨"OrreryBoxModel", "world", "(III)I"⟩
theorem zc_MD_world : Cond.code zy_MD_world zb_MD_world 4 (some .int) ∈ gw := gw_t 1992 (by decide +kernel) rfl
theorem zq_MD_world : zy_MD_world.cls ≠ "java/lang/invoke/MethodHandle" ∧ zy_MD_world.cls ≠ "java/lang/invoke/VarHandle" ∧ (parseMethodDescriptor zy_MD_world.desc).map (fun d => d.parameters.length) = some 3 := by decide +kernel
theorem zd_MD_world_0 : decode zb_MD_world 0 = .ok (.aload_n 0, 1) := by decide +kernel
theorem zd_MD_world_1 : decode zb_MD_world 1 = .ok (.iload_n 1, 1) := by decide +kernel
theorem zd_MD_world_2 : decode zb_MD_world 2 = .ok (.ifCond .lt 32, 3) := by decide +kernel
theorem zd_MD_world_5 : decode zb_MD_world 5 = .ok (.iload_n 1, 1) := by decide +kernel
theorem zd_MD_world_6 : decode zb_MD_world 6 = .ok (.aload_n 0, 1) := by decide +kernel
theorem zd_MD_world_7 : decode zb_MD_world 7 = .ok (.getfield 17, 3) := by decide +kernel
theorem zd_MD_world_10 : decode zb_MD_world 10 = .ok (.getfield 113, 3) := by decide +kernel
theorem zd_MD_world_13 : decode zb_MD_world 13 = .ok (.if_icmp .ge 21, 3) := by decide +kernel
theorem zd_MD_world_16 : decode zb_MD_world 16 = .ok (.iload_n 2, 1) := by decide +kernel
theorem zd_MD_world_17 : decode zb_MD_world 17 = .ok (.ifCond .lt 17, 3) := by decide +kernel
theorem zd_MD_world_20 : decode zb_MD_world 20 = .ok (.iload_n 2, 1) := by decide +kernel
theorem zd_MD_world_21 : decode zb_MD_world 21 = .ok (.iconst 2, 1) := by decide +kernel
theorem zd_MD_world_22 : decode zb_MD_world 22 = .ok (.if_icmp .gt 12, 3) := by decide +kernel
theorem zd_MD_world_25 : decode zb_MD_world 25 = .ok (.iload_n 3, 1) := by decide +kernel
theorem zd_MD_world_26 : decode zb_MD_world 26 = .ok (.ifCond .lt 8, 3) := by decide +kernel
theorem zd_MD_world_29 : decode zb_MD_world 29 = .ok (.iload_n 3, 1) := by decide +kernel
theorem zd_MD_world_30 : decode zb_MD_world 30 = .ok (.iconst 3, 1) := by decide +kernel
theorem zd_MD_world_31 : decode zb_MD_world 31 = .ok (.if_icmp .le 7, 3) := by decide +kernel
theorem zd_MD_world_34 : decode zb_MD_world 34 = .ok (.iconst 1, 1) := by decide +kernel
theorem zd_MD_world_35 : decode zb_MD_world 35 = .ok (.goto 4, 3) := by decide +kernel
theorem zd_MD_world_38 : decode zb_MD_world 38 = .ok (.iconst 0, 1) := by decide +kernel
theorem zd_MD_world_39 : decode zb_MD_world 39 = .ok (.putfield 80, 3) := by decide +kernel
theorem zd_MD_world_42 : decode zb_MD_world 42 = .ok (.aload_n 0, 1) := by decide +kernel
theorem zd_MD_world_43 : decode zb_MD_world 43 = .ok (.getfield 80, 3) := by decide +kernel
theorem zd_MD_world_46 : decode zb_MD_world 46 = .ok (.ifCond .eq 5, 3) := by decide +kernel
theorem zd_MD_world_49 : decode zb_MD_world 49 = .ok (.iconst 0, 1) := by decide +kernel
theorem zd_MD_world_50 : decode zb_MD_world 50 = .ok (.ireturn, 1) := by decide +kernel
theorem zd_MD_world_51 : decode zb_MD_world 51 = .ok (.aload_n 0, 1) := by decide +kernel
theorem zd_MD_world_52 : decode zb_MD_world 52 = .ok (.getfield 73, 3) := by decide +kernel
theorem zd_MD_world_55 : decode zb_MD_world 55 = .ok (.aload_n 0, 1) := by decide +kernel
theorem zd_MD_world_56 : decode zb_MD_world 56 = .ok (.getfield 17, 3) := by decide +kernel
theorem zd_MD_world_59 : decode zb_MD_world 59 = .ok (.putfield 168, 3) := by decide +kernel
theorem zd_MD_world_62 : decode zb_MD_world 62 = .ok (.aload_n 0, 1) := by decide +kernel
theorem zd_MD_world_63 : decode zb_MD_world 63 = .ok (.getfield 73, 3) := by decide +kernel
theorem zd_MD_world_66 : decode zb_MD_world 66 = .ok (.iload_n 1, 1) := by decide +kernel
theorem zd_MD_world_67 : decode zb_MD_world 67 = .ok (.invokevirtual 171, 3) := by decide +kernel
theorem zd_MD_world_70 : decode zb_MD_world 70 = .ok (.aload_n 0, 1) := by decide +kernel
theorem zd_MD_world_71 : decode zb_MD_world 71 = .ok (.getfield 73, 3) := by decide +kernel
theorem zd_MD_world_74 : decode zb_MD_world 74 = .ok (.getfield 174, 3) := by decide +kernel
theorem zd_MD_world_77 : decode zb_MD_world 77 = .ok (.iconst 4, 1) := by decide +kernel
theorem zd_MD_world_78 : decode zb_MD_world 78 = .ok (.iload_n 2, 1) := by decide +kernel
theorem zd_MD_world_79 : decode zb_MD_world 79 = .ok (.imul, 1) := by decide +kernel
theorem zd_MD_world_80 : decode zb_MD_world 80 = .ok (.iload_n 3, 1) := by decide +kernel
theorem zd_MD_world_81 : decode zb_MD_world 81 = .ok (.iadd, 1) := by decide +kernel
theorem zd_MD_world_82 : decode zb_MD_world 82 = .ok (.laload, 1) := by decide +kernel
theorem zd_MD_world_83 : decode zb_MD_world 83 = .ok (.l2i, 1) := by decide +kernel
theorem zd_MD_world_84 : decode zb_MD_world 84 = .ok (.ireturn, 1) := by decide +kernel
set_option maxHeartbeats 4000000 in
set_option maxRecDepth 100000 in
theorem e_MD_world (l : Launch) (D : va_G) (tA : Nat → ClassId) (b : Nat) (f : zV) (n : Nat) (k : Int32) (x : Int32) (y : Int32) (w : Int32) (h : Int32) (h0 : f 1185 = some (.inr (1, [.int w, .int h, .ref (b + 1186), .int 0, .ref (b + 1187), .ref (b + 1217), .ref (b + 1247), .ref (b + 1277), .ref (b + 1285), .ref (b + 1278), .int 0, .int 0, .int 0, .int 0, .ref (b + 1281), .int 0, .ref (b + 1282), .ref (b + 1283), .ref (b + 1284), .int (-1)]))) (hs : f 1187 = some (.inr (15, msO b 1188 0 0 0 0 0 32 16384)))  : zM l D tA b zy_MD_world zb_MD_world 4 (some .int) 0 0 0 0 [.ref (b + 1185), .int k, .int x, .int y] f n (zE (some (.int 0)) (zu (f) 1185 (.inr (1, [.int w, .int h, .ref (b + 1186), .int 0, .ref (b + 1187), .ref (b + 1217), .ref (b + 1247), .ref (b + 1277), .ref (b + 1285), .ref (b + 1278), .int 0, .int 1, .int 0, .int 0, .ref (b + 1281), .int 0, .ref (b + 1282), .ref (b + 1283), .ref (b + 1284), .int (-1)]))) n) := by
  refine zM_of (own := "OrreryBoxModel") (plainFor_of_name (by decide)) rfl (Nat.le_of_ble_eq_true rfl) (fun p e s m below meth c F hr hin hH => ?_)
  refine zr_aload_n F zd_MD_world_0 rfl ?_
  refine zr_iload_n F zd_MD_world_1 rfl ?_
  refine zr_if_lt F 34 zd_MD_world_2 (by decide) (fun h1 => ?_) (fun h1 => ?_)
  ·
    refine zr_iconstv (v := 1) F zd_MD_world_34 (by decide) ?_
    refine zr_goto F 39 zd_MD_world_35 (by decide) ?_
    refine zr_put F 1 11 zd_MD_world_39 h0 rfl (by decide) zw_1691 rfl rfl rfl rfl (by exact (Nat.le_of_ble_eq_true rfl)) ?_
    refine zr_norm (zu (f) 1185 (.inr (1, [.int w, .int h, .ref (b + 1186), .int 0, .ref (b + 1187), .ref (b + 1217), .ref (b + 1247), .ref (b + 1277), .ref (b + 1285), .ref (b + 1278), .int 0, .int 1, .int 0, .int 0, .ref (b + 1281), .int 0, .ref (b + 1282), .ref (b + 1283), .ref (b + 1284), .int (-1)]))) _ (rfl) rfl ?_
    refine zr_aload_n F zd_MD_world_42 rfl ?_
    refine zr_get F 1 11 zd_MD_world_43 (zu_s _ _ _) rfl (by decide) zw_1691 rfl (by rfl) ?_
    refine zr_if_eq F 51 zd_MD_world_46 (by decide) (fun h => absurd h (by decide)) (fun _ => ?_)
    refine zr_iconstv (v := 0) F zd_MD_world_49 (by decide) ?_
    exact zr_iret F hr zd_MD_world_50 (Nat.le_of_ble_eq_true rfl) (Nat.le_of_ble_eq_true rfl) ⟨rfl, rfl, rfl⟩
  ·
    refine zr_iload_n F zd_MD_world_5 rfl ?_
    refine zr_aload_n F zd_MD_world_6 rfl ?_
    refine zr_get F 1 4 zd_MD_world_7 h0 rfl (by decide) zw_1684 rfl (by rfl) ?_
    refine zr_get F 15 3 zd_MD_world_10 hs rfl (by decide) zw_1325 rfl (by rfl) ?_
    refine zr_icmp_ge F 34 zd_MD_world_13 (by decide) (fun _ => ?_) (fun h => absurd h (zx_nn h1))
    refine zr_iconstv (v := 1) F zd_MD_world_34 (by decide) ?_
    refine zr_goto F 39 zd_MD_world_35 (by decide) ?_
    refine zr_put F 1 11 zd_MD_world_39 h0 rfl (by decide) zw_1691 rfl rfl rfl rfl (by exact (Nat.le_of_ble_eq_true rfl)) ?_
    refine zr_norm (zu (f) 1185 (.inr (1, [.int w, .int h, .ref (b + 1186), .int 0, .ref (b + 1187), .ref (b + 1217), .ref (b + 1247), .ref (b + 1277), .ref (b + 1285), .ref (b + 1278), .int 0, .int 1, .int 0, .int 0, .ref (b + 1281), .int 0, .ref (b + 1282), .ref (b + 1283), .ref (b + 1284), .int (-1)]))) _ (rfl) rfl ?_
    refine zr_aload_n F zd_MD_world_42 rfl ?_
    refine zr_get F 1 11 zd_MD_world_43 (zu_s _ _ _) rfl (by decide) zw_1691 rfl (by rfl) ?_
    refine zr_if_eq F 51 zd_MD_world_46 (by decide) (fun h => absurd h (by decide)) (fun _ => ?_)
    refine zr_iconstv (v := 0) F zd_MD_world_49 (by decide) ?_
    exact zr_iret F hr zd_MD_world_50 (Nat.le_of_ble_eq_true rfl) (Nat.le_of_ble_eq_true rfl) ⟨rfl, rfl, rfl⟩
set_option maxHeartbeats 4000000 in
set_option maxRecDepth 100000 in
theorem e_MD_thrown (l : Launch) (D : va_G) (tA : Nat → ClassId) (b : Nat) (f : zV) (n : Nat) (th : Int32) (w : Int32) (h : Int32) (tp : Int32) (ti : Int32) (wk : Int32) (wa : Int32) (bg : Int32) (pk : Int32) (h0 : f 1185 = some (.inr (1, [.int w, .int h, .ref (b + 1186), .int tp, .ref (b + 1187), .ref (b + 1217), .ref (b + 1247), .ref (b + 1277), .ref (b + 1285), .ref (b + 1278), .int ti, .int th, .int wk, .int wa, .ref (b + 1281), .int bg, .ref (b + 1282), .ref (b + 1283), .ref (b + 1284), .int pk])))  : zM l D tA b zy_MD_thrown zb_MD_thrown 1 (some .int) 0 0 0 0 [.ref (b + 1185)] f n (zE (some (.int th)) f n) := by
  refine zM_of (own := "OrreryBoxModel") (plainFor_of_name (by decide)) rfl (Nat.le_of_ble_eq_true rfl) (fun p e s m below meth c F hr hin hH => ?_)
  refine zr_aload_n F zd_MD_thrown_0 rfl ?_
  refine zr_get F 1 11 zd_MD_thrown_1 h0 rfl (by decide) zw_1691 rfl (by rfl) ?_
  exact zr_iret F hr zd_MD_thrown_4 (Nat.le_of_ble_eq_true rfl) (Nat.le_of_ble_eq_true rfl) ⟨rfl, rfl, rfl⟩
abbrev zb_MD_tile : ByteArray := prog_14_method_22_code
def zy_MD_tile : MethodName := ⟨"OrreryBoxModel", "tile", "(I)Z"⟩
theorem zc_MD_tile : Cond.code zy_MD_tile zb_MD_tile 4 (some .boolean) ∈ gw := gw_t 2054 (by decide +kernel) rfl
theorem zq_MD_tile : zy_MD_tile.cls ≠ "java/lang/invoke/MethodHandle" ∧ zy_MD_tile.cls ≠ "java/lang/invoke/VarHandle" ∧ (parseMethodDescriptor zy_MD_tile.desc).map (fun d => d.parameters.length) = some 1 := by decide +kernel
theorem zd_MD_tile_0 : decode zb_MD_tile 0 = .ok (.aload_n 0, 1) := by decide +kernel
theorem zd_MD_tile_1 : decode zb_MD_tile 1 = .ok (.iconst 0, 1) := by decide +kernel
theorem zd_MD_tile_2 : decode zb_MD_tile 2 = .ok (.putfield 80, 3) := by decide +kernel
theorem zd_MD_tile_5 : decode zb_MD_tile 5 = .ok (.aload_n 0, 1) := by decide +kernel
theorem zd_MD_tile_6 : decode zb_MD_tile 6 = .ok (.getfield 181, 3) := by decide +kernel
theorem zd_MD_tile_9 : decode zb_MD_tile 9 = .ok (.ifCond .eq 24, 3) := by decide +kernel
theorem zd_MD_tile_12 : decode zb_MD_tile 12 = .ok (.iload_n 1, 1) := by decide +kernel
theorem zd_MD_tile_13 : decode zb_MD_tile 13 = .ok (.ifCond .lt 20, 3) := by decide +kernel
theorem zd_MD_tile_16 : decode zb_MD_tile 16 = .ok (.iload_n 1, 1) := by decide +kernel
theorem zd_MD_tile_17 : decode zb_MD_tile 17 = .ok (.aload_n 0, 1) := by decide +kernel
theorem zd_MD_tile_18 : decode zb_MD_tile 18 = .ok (.invokevirtual 185, 3) := by decide +kernel
theorem zd_MD_tile_21 : decode zb_MD_tile 21 = .ok (.if_icmp .ge 12, 3) := by decide +kernel
theorem zd_MD_tile_24 : decode zb_MD_tile 24 = .ok (.aload_n 0, 1) := by decide +kernel
theorem zd_MD_tile_25 : decode zb_MD_tile 25 = .ok (.getfield 47, 3) := by decide +kernel
theorem zd_MD_tile_28 : decode zb_MD_tile 28 = .ok (.iload_n 1, 1) := by decide +kernel
theorem zd_MD_tile_29 : decode zb_MD_tile 29 = .ok (.baload, 1) := by decide +kernel
theorem zd_MD_tile_30 : decode zb_MD_tile 30 = .ok (.ifCond .eq 5, 3) := by decide +kernel
theorem zd_MD_tile_33 : decode zb_MD_tile 33 = .ok (.iconst 0, 1) := by decide +kernel
theorem zd_MD_tile_34 : decode zb_MD_tile 34 = .ok (.ireturn, 1) := by decide +kernel
theorem zd_MD_tile_35 : decode zb_MD_tile 35 = .ok (.aload_n 0, 1) := by decide +kernel
theorem zd_MD_tile_36 : decode zb_MD_tile 36 = .ok (.getfield 47, 3) := by decide +kernel
theorem zd_MD_tile_39 : decode zb_MD_tile 39 = .ok (.iload_n 1, 1) := by decide +kernel
theorem zd_MD_tile_40 : decode zb_MD_tile 40 = .ok (.iconst 1, 1) := by decide +kernel
theorem zd_MD_tile_41 : decode zb_MD_tile 41 = .ok (.bastore, 1) := by decide +kernel
theorem zd_MD_tile_42 : decode zb_MD_tile 42 = .ok (.bipush 8, 2) := by decide +kernel
theorem zd_MD_tile_44 : decode zb_MD_tile 44 = .ok (.iload_n 1, 1) := by decide +kernel
theorem zd_MD_tile_45 : decode zb_MD_tile 45 = .ok (.aload_n 0, 1) := by decide +kernel
theorem zd_MD_tile_46 : decode zb_MD_tile 46 = .ok (.invokevirtual 177, 3) := by decide +kernel
theorem zd_MD_tile_49 : decode zb_MD_tile 49 = .ok (.irem, 1) := by decide +kernel
theorem zd_MD_tile_50 : decode zb_MD_tile 50 = .ok (.imul, 1) := by decide +kernel
theorem zd_MD_tile_51 : decode zb_MD_tile 51 = .ok (.istore_n 2, 1) := by decide +kernel
theorem zd_MD_tile_52 : decode zb_MD_tile 52 = .ok (.bipush 8, 2) := by decide +kernel
theorem zd_MD_tile_54 : decode zb_MD_tile 54 = .ok (.iload_n 1, 1) := by decide +kernel
theorem zd_MD_tile_55 : decode zb_MD_tile 55 = .ok (.aload_n 0, 1) := by decide +kernel
theorem zd_MD_tile_56 : decode zb_MD_tile 56 = .ok (.invokevirtual 177, 3) := by decide +kernel
theorem zd_MD_tile_59 : decode zb_MD_tile 59 = .ok (.idiv, 1) := by decide +kernel
theorem zd_MD_tile_60 : decode zb_MD_tile 60 = .ok (.imul, 1) := by decide +kernel
theorem zd_MD_tile_61 : decode zb_MD_tile 61 = .ok (.istore_n 3, 1) := by decide +kernel
theorem zd_MD_tile_62 : decode zb_MD_tile 62 = .ok (.aload_n 0, 1) := by decide +kernel
theorem zd_MD_tile_63 : decode zb_MD_tile 63 = .ok (.getfield 73, 3) := by decide +kernel
theorem zd_MD_tile_66 : decode zb_MD_tile 66 = .ok (.aload_n 0, 1) := by decide +kernel
theorem zd_MD_tile_67 : decode zb_MD_tile 67 = .ok (.getfield 24, 3) := by decide +kernel
theorem zd_MD_tile_70 : decode zb_MD_tile 70 = .ok (.iload_n 2, 1) := by decide +kernel
theorem zd_MD_tile_71 : decode zb_MD_tile 71 = .ok (.iload_n 3, 1) := by decide +kernel
theorem zd_MD_tile_72 : decode zb_MD_tile 72 = .ok (.iload_n 2, 1) := by decide +kernel
theorem zd_MD_tile_73 : decode zb_MD_tile 73 = .ok (.bipush 8, 2) := by decide +kernel
theorem zd_MD_tile_75 : decode zb_MD_tile 75 = .ok (.iadd, 1) := by decide +kernel
theorem zd_MD_tile_76 : decode zb_MD_tile 76 = .ok (.aload_n 0, 1) := by decide +kernel
theorem zd_MD_tile_77 : decode zb_MD_tile 77 = .ok (.getfield 62, 3) := by decide +kernel
theorem zd_MD_tile_80 : decode zb_MD_tile 80 = .ok (.if_icmp .ge 10, 3) := by decide +kernel
theorem zd_MD_tile_83 : decode zb_MD_tile 83 = .ok (.iload_n 2, 1) := by decide +kernel
theorem zd_MD_tile_84 : decode zb_MD_tile 84 = .ok (.bipush 8, 2) := by decide +kernel
theorem zd_MD_tile_86 : decode zb_MD_tile 86 = .ok (.iadd, 1) := by decide +kernel
theorem zd_MD_tile_87 : decode zb_MD_tile 87 = .ok (.goto 7, 3) := by decide +kernel
theorem zd_MD_tile_90 : decode zb_MD_tile 90 = .ok (.aload_n 0, 1) := by decide +kernel
theorem zd_MD_tile_91 : decode zb_MD_tile 91 = .ok (.getfield 62, 3) := by decide +kernel
theorem zd_MD_tile_94 : decode zb_MD_tile 94 = .ok (.iload_n 3, 1) := by decide +kernel
theorem zd_MD_tile_95 : decode zb_MD_tile 95 = .ok (.bipush 8, 2) := by decide +kernel
theorem zd_MD_tile_97 : decode zb_MD_tile 97 = .ok (.iadd, 1) := by decide +kernel
theorem zd_MD_tile_98 : decode zb_MD_tile 98 = .ok (.aload_n 0, 1) := by decide +kernel
theorem zd_MD_tile_99 : decode zb_MD_tile 99 = .ok (.getfield 65, 3) := by decide +kernel
theorem zd_MD_tile_102 : decode zb_MD_tile 102 = .ok (.if_icmp .ge 10, 3) := by decide +kernel
theorem zd_MD_tile_105 : decode zb_MD_tile 105 = .ok (.iload_n 3, 1) := by decide +kernel
theorem zd_MD_tile_106 : decode zb_MD_tile 106 = .ok (.bipush 8, 2) := by decide +kernel
theorem zd_MD_tile_108 : decode zb_MD_tile 108 = .ok (.iadd, 1) := by decide +kernel
theorem zd_MD_tile_109 : decode zb_MD_tile 109 = .ok (.goto 7, 3) := by decide +kernel
theorem zd_MD_tile_112 : decode zb_MD_tile 112 = .ok (.aload_n 0, 1) := by decide +kernel
theorem zd_MD_tile_113 : decode zb_MD_tile 113 = .ok (.getfield 65, 3) := by decide +kernel
theorem zd_MD_tile_116 : decode zb_MD_tile 116 = .ok (.invokevirtual 188, 3) := by decide +kernel
theorem zd_MD_tile_119 : decode zb_MD_tile 119 = .ok (.iconst 1, 1) := by decide +kernel
theorem zd_MD_tile_120 : decode zb_MD_tile 120 = .ok (.ireturn, 1) := by decide +kernel
theorem zw_1695 : (Jvm.Cond.fieldLink "OrreryBoxModel" (181 : Nat) "OrreryBoxModel" "begun" "Z") ∈ gw := gw_t 1695 (by decide +kernel) rfl
set_option maxHeartbeats 4000000 in
set_option maxRecDepth 100000 in
theorem e_MD_tile (l : Launch) (D : va_G) (tA : Nat → ClassId) (b : Nat) (f : zV) (n : Nat) (k : Int32) (w : Int32) (h : Int32) (h0 : f 1185 = some (.inr (1, [.int w, .int h, .ref (b + 1186), .int 0, .ref (b + 1187), .ref (b + 1217), .ref (b + 1247), .ref (b + 1277), .ref (b + 1285), .ref (b + 1278), .int 0, .int 0, .int 0, .int 0, .ref (b + 1281), .int 0, .ref (b + 1282), .ref (b + 1283), .ref (b + 1284), .int (-1)])))  : zM l D tA b zy_MD_tile zb_MD_tile 4 (some .boolean) 0 0 0 0 [.ref (b + 1185), .int k] f n (zE (some (.int 0)) (zu (f) 1185 (.inr (1, [.int w, .int h, .ref (b + 1186), .int 0, .ref (b + 1187), .ref (b + 1217), .ref (b + 1247), .ref (b + 1277), .ref (b + 1285), .ref (b + 1278), .int 0, .int 0, .int 0, .int 0, .ref (b + 1281), .int 0, .ref (b + 1282), .ref (b + 1283), .ref (b + 1284), .int (-1)]))) n) := by
  refine zM_of (own := "OrreryBoxModel") (plainFor_of_name (by decide)) rfl (Nat.le_of_ble_eq_true rfl) (fun p e s m below meth c F hr hin hH => ?_)
  refine zr_aload_n F zd_MD_tile_0 rfl ?_
  refine zr_iconstv (v := 0) F zd_MD_tile_1 (by decide) ?_
  refine zr_put F 1 11 zd_MD_tile_2 h0 rfl (by decide) zw_1691 rfl rfl rfl rfl (by exact (Nat.le_of_ble_eq_true rfl)) ?_
  refine zr_norm (zu (f) 1185 (.inr (1, [.int w, .int h, .ref (b + 1186), .int 0, .ref (b + 1187), .ref (b + 1217), .ref (b + 1247), .ref (b + 1277), .ref (b + 1285), .ref (b + 1278), .int 0, .int 0, .int 0, .int 0, .ref (b + 1281), .int 0, .ref (b + 1282), .ref (b + 1283), .ref (b + 1284), .int (-1)]))) _ (rfl) rfl ?_
  refine zr_aload_n F zd_MD_tile_5 rfl ?_
  refine zr_get F 1 15 zd_MD_tile_6 (zu_s _ _ _) rfl (by decide) zw_1695 rfl (by rfl) ?_
  refine zr_if_eq F 33 zd_MD_tile_9 (by decide) (fun _ => ?_) (fun h => absurd h (by decide))
  refine zr_iconstv (v := 0) F zd_MD_tile_33 (by decide) ?_
  exact zr_zret F hr rfl zd_MD_tile_34 (Nat.le_of_ble_eq_true rfl) (Nat.le_of_ble_eq_true rfl) ⟨rfl, rfl, rfl⟩
abbrev zb_MD_isDone : ByteArray := prog_14_method_24_code
def zy_MD_isDone : MethodName := ⟨"OrreryBoxModel", "isDone", "(II)Z"⟩
theorem zc_MD_isDone : Cond.code zy_MD_isDone zb_MD_isDone 3 (some .boolean) ∈ gw := gw_t 2161 (by decide +kernel) rfl
theorem zq_MD_isDone : zy_MD_isDone.cls ≠ "java/lang/invoke/MethodHandle" ∧ zy_MD_isDone.cls ≠ "java/lang/invoke/VarHandle" ∧ (parseMethodDescriptor zy_MD_isDone.desc).map (fun d => d.parameters.length) = some 2 := by decide +kernel
theorem zd_MD_isDone_0 : decode zb_MD_isDone 0 = .ok (.aload_n 0, 1) := by decide +kernel
theorem zd_MD_isDone_1 : decode zb_MD_isDone 1 = .ok (.getfield 181, 3) := by decide +kernel
theorem zd_MD_isDone_4 : decode zb_MD_isDone 4 = .ok (.ifCond .eq 38, 3) := by decide +kernel
theorem zd_MD_isDone_7 : decode zb_MD_isDone 7 = .ok (.aload_n 0, 1) := by decide +kernel
theorem zd_MD_isDone_8 : decode zb_MD_isDone 8 = .ok (.iload_n 1, 1) := by decide +kernel
theorem zd_MD_isDone_9 : decode zb_MD_isDone 9 = .ok (.iload_n 2, 1) := by decide +kernel
theorem zd_MD_isDone_10 : decode zb_MD_isDone 10 = .ok (.invokevirtual 192, 3) := by decide +kernel
theorem zd_MD_isDone_13 : decode zb_MD_isDone 13 = .ok (.ifCond .eq 29, 3) := by decide +kernel
theorem zd_MD_isDone_16 : decode zb_MD_isDone 16 = .ok (.aload_n 0, 1) := by decide +kernel
theorem zd_MD_isDone_17 : decode zb_MD_isDone 17 = .ok (.getfield 47, 3) := by decide +kernel
theorem zd_MD_isDone_20 : decode zb_MD_isDone 20 = .ok (.aload_n 0, 1) := by decide +kernel
theorem zd_MD_isDone_21 : decode zb_MD_isDone 21 = .ok (.invokevirtual 177, 3) := by decide +kernel
theorem zd_MD_isDone_24 : decode zb_MD_isDone 24 = .ok (.iload_n 2, 1) := by decide +kernel
theorem zd_MD_isDone_25 : decode zb_MD_isDone 25 = .ok (.bipush 8, 2) := by decide +kernel
theorem zd_MD_isDone_27 : decode zb_MD_isDone 27 = .ok (.idiv, 1) := by decide +kernel
theorem zd_MD_isDone_28 : decode zb_MD_isDone 28 = .ok (.imul, 1) := by decide +kernel
theorem zd_MD_isDone_29 : decode zb_MD_isDone 29 = .ok (.iload_n 1, 1) := by decide +kernel
theorem zd_MD_isDone_30 : decode zb_MD_isDone 30 = .ok (.bipush 8, 2) := by decide +kernel
theorem zd_MD_isDone_32 : decode zb_MD_isDone 32 = .ok (.idiv, 1) := by decide +kernel
theorem zd_MD_isDone_33 : decode zb_MD_isDone 33 = .ok (.iadd, 1) := by decide +kernel
theorem zd_MD_isDone_34 : decode zb_MD_isDone 34 = .ok (.baload, 1) := by decide +kernel
theorem zd_MD_isDone_35 : decode zb_MD_isDone 35 = .ok (.ifCond .eq 7, 3) := by decide +kernel
theorem zd_MD_isDone_38 : decode zb_MD_isDone 38 = .ok (.iconst 1, 1) := by decide +kernel
theorem zd_MD_isDone_39 : decode zb_MD_isDone 39 = .ok (.goto 4, 3) := by decide +kernel
theorem zd_MD_isDone_42 : decode zb_MD_isDone 42 = .ok (.iconst 0, 1) := by decide +kernel
theorem zd_MD_isDone_43 : decode zb_MD_isDone 43 = .ok (.ireturn, 1) := by decide +kernel
set_option maxHeartbeats 4000000 in
set_option maxRecDepth 100000 in
theorem e_MD_isDone (l : Launch) (D : va_G) (tA : Nat → ClassId) (b : Nat) (f : zV) (n : Nat) (x : Int32) (y : Int32) (w : Int32) (h : Int32) (h0 : f 1185 = some (.inr (1, [.int w, .int h, .ref (b + 1186), .int 0, .ref (b + 1187), .ref (b + 1217), .ref (b + 1247), .ref (b + 1277), .ref (b + 1285), .ref (b + 1278), .int 0, .int 0, .int 0, .int 0, .ref (b + 1281), .int 0, .ref (b + 1282), .ref (b + 1283), .ref (b + 1284), .int (-1)])))  : zM l D tA b zy_MD_isDone zb_MD_isDone 3 (some .boolean) 0 0 0 0 [.ref (b + 1185), .int x, .int y] f n (zE (some (.int 0)) f n) := by
  refine zM_of (own := "OrreryBoxModel") (plainFor_of_name (by decide)) rfl (Nat.le_of_ble_eq_true rfl) (fun p e s m below meth c F hr hin hH => ?_)
  refine zr_aload_n F zd_MD_isDone_0 rfl ?_
  refine zr_get F 1 15 zd_MD_isDone_1 h0 rfl (by decide) zw_1695 rfl (by rfl) ?_
  refine zr_if_eq F 42 zd_MD_isDone_4 (by decide) (fun _ => ?_) (fun h => absurd h (by decide))
  refine zr_iconstv (v := 0) F zd_MD_isDone_42 (by decide) ?_
  exact zr_zret F hr rfl zd_MD_isDone_43 (Nat.le_of_ble_eq_true rfl) (Nat.le_of_ble_eq_true rfl) ⟨rfl, rfl, rfl⟩
abbrev zb_MD_pixel : ByteArray := prog_14_method_25_code
def zy_MD_pixel : MethodName := ⟨"OrreryBoxModel", "pixel", "(II)I"⟩
theorem zc_MD_pixel : Cond.code zy_MD_pixel zb_MD_pixel 4 (some .int) ∈ gw := gw_t 2157 (by decide +kernel) rfl
theorem zq_MD_pixel : zy_MD_pixel.cls ≠ "java/lang/invoke/MethodHandle" ∧ zy_MD_pixel.cls ≠ "java/lang/invoke/VarHandle" ∧ (parseMethodDescriptor zy_MD_pixel.desc).map (fun d => d.parameters.length) = some 2 := by decide +kernel
theorem zd_MD_pixel_0 : decode zb_MD_pixel 0 = .ok (.aload_n 0, 1) := by decide +kernel
theorem zd_MD_pixel_1 : decode zb_MD_pixel 1 = .ok (.iconst 0, 1) := by decide +kernel
theorem zd_MD_pixel_2 : decode zb_MD_pixel 2 = .ok (.putfield 80, 3) := by decide +kernel
theorem zd_MD_pixel_5 : decode zb_MD_pixel 5 = .ok (.aload_n 0, 1) := by decide +kernel
theorem zd_MD_pixel_6 : decode zb_MD_pixel 6 = .ok (.iload_n 1, 1) := by decide +kernel
theorem zd_MD_pixel_7 : decode zb_MD_pixel 7 = .ok (.iload_n 2, 1) := by decide +kernel
theorem zd_MD_pixel_8 : decode zb_MD_pixel 8 = .ok (.invokevirtual 196, 3) := by decide +kernel
theorem zd_MD_pixel_11 : decode zb_MD_pixel 11 = .ok (.ifCond .ne 5, 3) := by decide +kernel
theorem zd_MD_pixel_14 : decode zb_MD_pixel 14 = .ok (.iconst (-1), 1) := by decide +kernel
theorem zd_MD_pixel_15 : decode zb_MD_pixel 15 = .ok (.ireturn, 1) := by decide +kernel
theorem zd_MD_pixel_16 : decode zb_MD_pixel 16 = .ok (.iconst 3, 1) := by decide +kernel
theorem zd_MD_pixel_17 : decode zb_MD_pixel 17 = .ok (.aload_n 0, 1) := by decide +kernel
theorem zd_MD_pixel_18 : decode zb_MD_pixel 18 = .ok (.getfield 62, 3) := by decide +kernel
theorem zd_MD_pixel_21 : decode zb_MD_pixel 21 = .ok (.iload_n 2, 1) := by decide +kernel
theorem zd_MD_pixel_22 : decode zb_MD_pixel 22 = .ok (.imul, 1) := by decide +kernel
theorem zd_MD_pixel_23 : decode zb_MD_pixel 23 = .ok (.iload_n 1, 1) := by decide +kernel
theorem zd_MD_pixel_24 : decode zb_MD_pixel 24 = .ok (.iadd, 1) := by decide +kernel
theorem zd_MD_pixel_25 : decode zb_MD_pixel 25 = .ok (.imul, 1) := by decide +kernel
theorem zd_MD_pixel_26 : decode zb_MD_pixel 26 = .ok (.istore_n 3, 1) := by decide +kernel
theorem zd_MD_pixel_27 : decode zb_MD_pixel 27 = .ok (.aload_n 0, 1) := by decide +kernel
theorem zd_MD_pixel_28 : decode zb_MD_pixel 28 = .ok (.getfield 51, 3) := by decide +kernel
theorem zd_MD_pixel_31 : decode zb_MD_pixel 31 = .ok (.iload_n 3, 1) := by decide +kernel
theorem zd_MD_pixel_32 : decode zb_MD_pixel 32 = .ok (.iaload, 1) := by decide +kernel
theorem zd_MD_pixel_33 : decode zb_MD_pixel 33 = .ok (.ldc 7, 2) := by decide +kernel
theorem zd_MD_pixel_35 : decode zb_MD_pixel 35 = .ok (.imul, 1) := by decide +kernel
theorem zd_MD_pixel_36 : decode zb_MD_pixel 36 = .ok (.aload_n 0, 1) := by decide +kernel
theorem zd_MD_pixel_37 : decode zb_MD_pixel 37 = .ok (.getfield 51, 3) := by decide +kernel
theorem zd_MD_pixel_40 : decode zb_MD_pixel 40 = .ok (.iload_n 3, 1) := by decide +kernel
theorem zd_MD_pixel_41 : decode zb_MD_pixel 41 = .ok (.iconst 1, 1) := by decide +kernel
theorem zd_MD_pixel_42 : decode zb_MD_pixel 42 = .ok (.iadd, 1) := by decide +kernel
theorem zd_MD_pixel_43 : decode zb_MD_pixel 43 = .ok (.iaload, 1) := by decide +kernel
theorem zd_MD_pixel_44 : decode zb_MD_pixel 44 = .ok (.sipush 256, 3) := by decide +kernel
theorem zd_MD_pixel_47 : decode zb_MD_pixel 47 = .ok (.imul, 1) := by decide +kernel
theorem zd_MD_pixel_48 : decode zb_MD_pixel 48 = .ok (.iadd, 1) := by decide +kernel
theorem zd_MD_pixel_49 : decode zb_MD_pixel 49 = .ok (.aload_n 0, 1) := by decide +kernel
theorem zd_MD_pixel_50 : decode zb_MD_pixel 50 = .ok (.getfield 51, 3) := by decide +kernel
theorem zd_MD_pixel_53 : decode zb_MD_pixel 53 = .ok (.iload_n 3, 1) := by decide +kernel
theorem zd_MD_pixel_54 : decode zb_MD_pixel 54 = .ok (.iconst 2, 1) := by decide +kernel
theorem zd_MD_pixel_55 : decode zb_MD_pixel 55 = .ok (.iadd, 1) := by decide +kernel
theorem zd_MD_pixel_56 : decode zb_MD_pixel 56 = .ok (.iaload, 1) := by decide +kernel
theorem zd_MD_pixel_57 : decode zb_MD_pixel 57 = .ok (.iadd, 1) := by decide +kernel
theorem zd_MD_pixel_58 : decode zb_MD_pixel 58 = .ok (.ireturn, 1) := by decide +kernel
theorem zw_2158 : (Jvm.Cond.methodLink "OrreryBoxModel" (196 : Nat) ({ cls := "OrreryBoxModel", name := "isDone", desc := "(II)Z" } : Jvm.MethodName)) ∈ gw := gw_t 2158 (by decide +kernel) rfl
theorem zw_2160 : (Jvm.Cond.instanceMethod ({ cls := "OrreryBoxModel", name := "isDone", desc := "(II)Z" } : Jvm.MethodName)) ∈ gw := gw_t 2160 (by decide +kernel) rfl
theorem zv_116 : (Jvm.Cond.selects "OrreryBoxModel" (⟨"OrreryBoxModel", "isDone", "(II)Z"⟩ : MethodName) ⟨"OrreryBoxModel", "isDone", "(II)Z"⟩) ∈ gw := gw_s 116 (by decide +kernel) rfl
theorem zs_MD_196 : zwV "OrreryBoxModel" 196 "OrreryBoxModel" zy_MD_isDone zb_MD_isDone 3 (some .boolean) := ⟨zw_2158, zw_2160, zv_116, zw_13, zc_MD_isDone⟩
set_option maxHeartbeats 4000000 in
set_option maxRecDepth 100000 in
theorem e_MD_pixel (l : Launch) (D : va_G) (tA : Nat → ClassId) (b : Nat) (f : zV) (n : Nat) (x : Int32) (y : Int32) (w : Int32) (h : Int32) (h0 : f 1185 = some (.inr (1, [.int w, .int h, .ref (b + 1186), .int 0, .ref (b + 1187), .ref (b + 1217), .ref (b + 1247), .ref (b + 1277), .ref (b + 1285), .ref (b + 1278), .int 0, .int 0, .int 0, .int 0, .ref (b + 1281), .int 0, .ref (b + 1282), .ref (b + 1283), .ref (b + 1284), .int (-1)])))  : zM l D tA b zy_MD_pixel zb_MD_pixel 4 (some .int) 1 22 0 0 [.ref (b + 1185), .int x, .int y] f n (zE (some (.int (-1))) (zu (f) 1185 (.inr (1, [.int w, .int h, .ref (b + 1186), .int 0, .ref (b + 1187), .ref (b + 1217), .ref (b + 1247), .ref (b + 1277), .ref (b + 1285), .ref (b + 1278), .int 0, .int 0, .int 0, .int 0, .ref (b + 1281), .int 0, .ref (b + 1282), .ref (b + 1283), .ref (b + 1284), .int (-1)]))) n) := by
  refine zM_of (own := "OrreryBoxModel") (plainFor_of_name (by decide)) rfl (Nat.le_of_ble_eq_true rfl) (fun p e s m below meth c F hr hin hH => ?_)
  refine zr_aload_n F zd_MD_pixel_0 rfl ?_
  refine zr_iconstv (v := 0) F zd_MD_pixel_1 (by decide) ?_
  refine zr_put F 1 11 zd_MD_pixel_2 h0 rfl (by decide) zw_1691 rfl rfl rfl rfl (by exact (Nat.le_of_ble_eq_true rfl)) ?_
  refine zr_norm (zu (f) 1185 (.inr (1, [.int w, .int h, .ref (b + 1186), .int 0, .ref (b + 1187), .ref (b + 1217), .ref (b + 1247), .ref (b + 1277), .ref (b + 1285), .ref (b + 1278), .int 0, .int 0, .int 0, .int 0, .ref (b + 1281), .int 0, .ref (b + 1282), .ref (b + 1283), .ref (b + 1284), .int (-1)]))) _ (rfl) rfl ?_
  refine zr_aload_n F zd_MD_pixel_5 rfl ?_
  refine zr_iload_n F zd_MD_pixel_6 rfl ?_
  refine zr_iload_n F zd_MD_pixel_7 rfl ?_
  refine zr_callV1 F (e_MD_isDone l D tA b _ _ x y w h (zu_s _ _ _) ) zd_MD_pixel_8 (zu_s _ _ _) rfl zs_MD_196 rfl zq_MD_isDone rfl rfl ⟨(Nat.le_of_ble_eq_true rfl), (Nat.le_of_ble_eq_true rfl)⟩ (Nat.le_of_ble_eq_true rfl) ⟨(Nat.le_of_ble_eq_true rfl), (Nat.le_of_ble_eq_true rfl)⟩ ?_
  refine zr_if_ne F 16 zd_MD_pixel_11 (by decide) (fun h => absurd h (by decide)) (fun _ => ?_)
  refine zr_iconstv (v := (-1)) F zd_MD_pixel_14 (by decide) ?_
  exact zr_iret F hr zd_MD_pixel_15 (Nat.le_of_ble_eq_true rfl) (Nat.le_of_ble_eq_true rfl) ⟨rfl, rfl, rfl⟩
abbrev zb_MD_nearness : ByteArray := prog_14_method_26_code
def zy_MD_nearness : MethodName := ⟨"OrreryBoxModel", "nearness", "(II)I"⟩
theorem zc_MD_nearness : Cond.code zy_MD_nearness zb_MD_nearness 3 (some .int) ∈ gw := gw_t 2169 (by decide +kernel) rfl
theorem zq_MD_nearness : zy_MD_nearness.cls ≠ "java/lang/invoke/MethodHandle" ∧ zy_MD_nearness.cls ≠ "java/lang/invoke/VarHandle" ∧ (parseMethodDescriptor zy_MD_nearness.desc).map (fun d => d.parameters.length) = some 2 := by decide +kernel
theorem zd_MD_nearness_0 : decode zb_MD_nearness 0 = .ok (.aload_n 0, 1) := by decide +kernel
theorem zd_MD_nearness_1 : decode zb_MD_nearness 1 = .ok (.iconst 0, 1) := by decide +kernel
theorem zd_MD_nearness_2 : decode zb_MD_nearness 2 = .ok (.putfield 80, 3) := by decide +kernel
theorem zd_MD_nearness_5 : decode zb_MD_nearness 5 = .ok (.aload_n 0, 1) := by decide +kernel
theorem zd_MD_nearness_6 : decode zb_MD_nearness 6 = .ok (.iload_n 1, 1) := by decide +kernel
theorem zd_MD_nearness_7 : decode zb_MD_nearness 7 = .ok (.iload_n 2, 1) := by decide +kernel
theorem zd_MD_nearness_8 : decode zb_MD_nearness 8 = .ok (.invokevirtual 196, 3) := by decide +kernel
theorem zd_MD_nearness_11 : decode zb_MD_nearness 11 = .ok (.ifCond .eq 20, 3) := by decide +kernel
theorem zd_MD_nearness_14 : decode zb_MD_nearness 14 = .ok (.aload_n 0, 1) := by decide +kernel
theorem zd_MD_nearness_15 : decode zb_MD_nearness 15 = .ok (.getfield 54, 3) := by decide +kernel
theorem zd_MD_nearness_18 : decode zb_MD_nearness 18 = .ok (.aload_n 0, 1) := by decide +kernel
theorem zd_MD_nearness_19 : decode zb_MD_nearness 19 = .ok (.getfield 62, 3) := by decide +kernel
theorem zd_MD_nearness_22 : decode zb_MD_nearness 22 = .ok (.iload_n 2, 1) := by decide +kernel
theorem zd_MD_nearness_23 : decode zb_MD_nearness 23 = .ok (.imul, 1) := by decide +kernel
theorem zd_MD_nearness_24 : decode zb_MD_nearness 24 = .ok (.iload_n 1, 1) := by decide +kernel
theorem zd_MD_nearness_25 : decode zb_MD_nearness 25 = .ok (.iadd, 1) := by decide +kernel
theorem zd_MD_nearness_26 : decode zb_MD_nearness 26 = .ok (.laload, 1) := by decide +kernel
theorem zd_MD_nearness_27 : decode zb_MD_nearness 27 = .ok (.l2i, 1) := by decide +kernel
theorem zd_MD_nearness_28 : decode zb_MD_nearness 28 = .ok (.goto 4, 3) := by decide +kernel
theorem zd_MD_nearness_31 : decode zb_MD_nearness 31 = .ok (.iconst (-1), 1) := by decide +kernel
theorem zd_MD_nearness_32 : decode zb_MD_nearness 32 = .ok (.ireturn, 1) := by decide +kernel
set_option maxHeartbeats 4000000 in
set_option maxRecDepth 100000 in
theorem e_MD_nearness (l : Launch) (D : va_G) (tA : Nat → ClassId) (b : Nat) (f : zV) (n : Nat) (x : Int32) (y : Int32) (w : Int32) (h : Int32) (h0 : f 1185 = some (.inr (1, [.int w, .int h, .ref (b + 1186), .int 0, .ref (b + 1187), .ref (b + 1217), .ref (b + 1247), .ref (b + 1277), .ref (b + 1285), .ref (b + 1278), .int 0, .int 0, .int 0, .int 0, .ref (b + 1281), .int 0, .ref (b + 1282), .ref (b + 1283), .ref (b + 1284), .int (-1)])))  : zM l D tA b zy_MD_nearness zb_MD_nearness 3 (some .int) 1 22 0 0 [.ref (b + 1185), .int x, .int y] f n (zE (some (.int (-1))) (zu (f) 1185 (.inr (1, [.int w, .int h, .ref (b + 1186), .int 0, .ref (b + 1187), .ref (b + 1217), .ref (b + 1247), .ref (b + 1277), .ref (b + 1285), .ref (b + 1278), .int 0, .int 0, .int 0, .int 0, .ref (b + 1281), .int 0, .ref (b + 1282), .ref (b + 1283), .ref (b + 1284), .int (-1)]))) n) := by
  refine zM_of (own := "OrreryBoxModel") (plainFor_of_name (by decide)) rfl (Nat.le_of_ble_eq_true rfl) (fun p e s m below meth c F hr hin hH => ?_)
  refine zr_aload_n F zd_MD_nearness_0 rfl ?_
  refine zr_iconstv (v := 0) F zd_MD_nearness_1 (by decide) ?_
  refine zr_put F 1 11 zd_MD_nearness_2 h0 rfl (by decide) zw_1691 rfl rfl rfl rfl (by exact (Nat.le_of_ble_eq_true rfl)) ?_
  refine zr_norm (zu (f) 1185 (.inr (1, [.int w, .int h, .ref (b + 1186), .int 0, .ref (b + 1187), .ref (b + 1217), .ref (b + 1247), .ref (b + 1277), .ref (b + 1285), .ref (b + 1278), .int 0, .int 0, .int 0, .int 0, .ref (b + 1281), .int 0, .ref (b + 1282), .ref (b + 1283), .ref (b + 1284), .int (-1)]))) _ (rfl) rfl ?_
  refine zr_aload_n F zd_MD_nearness_5 rfl ?_
  refine zr_iload_n F zd_MD_nearness_6 rfl ?_
  refine zr_iload_n F zd_MD_nearness_7 rfl ?_
  refine zr_callV1 F (e_MD_isDone l D tA b _ _ x y w h (zu_s _ _ _) ) zd_MD_nearness_8 (zu_s _ _ _) rfl zs_MD_196 rfl zq_MD_isDone rfl rfl ⟨(Nat.le_of_ble_eq_true rfl), (Nat.le_of_ble_eq_true rfl)⟩ (Nat.le_of_ble_eq_true rfl) ⟨(Nat.le_of_ble_eq_true rfl), (Nat.le_of_ble_eq_true rfl)⟩ ?_
  refine zr_if_eq F 31 zd_MD_nearness_11 (by decide) (fun _ => ?_) (fun h => absurd h (by decide))
  refine zr_iconstv (v := (-1)) F zd_MD_nearness_31 (by decide) ?_
  exact zr_iret F hr zd_MD_nearness_32 (Nat.le_of_ble_eq_true rfl) (Nat.le_of_ble_eq_true rfl) ⟨rfl, rfl, rfl⟩
abbrev zb_MD_file : ByteArray := prog_14_method_29_code
def zy_MD_file : MethodName := ⟨"OrreryBoxModel", "file", "()I"⟩
theorem zc_MD_file : Cond.code zy_MD_file zb_MD_file 2 (some .int) ∈ gw := gw_t 2185 (by decide +kernel) rfl
theorem zq_MD_file : zy_MD_file.cls ≠ "java/lang/invoke/MethodHandle" ∧ zy_MD_file.cls ≠ "java/lang/invoke/VarHandle" ∧ (parseMethodDescriptor zy_MD_file.desc).map (fun d => d.parameters.length) = some 0 := by decide +kernel
theorem zd_MD_file_0 : decode zb_MD_file 0 = .ok (.aload_n 0, 1) := by decide +kernel
theorem zd_MD_file_1 : decode zb_MD_file 1 = .ok (.iconst 0, 1) := by decide +kernel
theorem zd_MD_file_2 : decode zb_MD_file 2 = .ok (.putfield 80, 3) := by decide +kernel
theorem zd_MD_file_5 : decode zb_MD_file 5 = .ok (.aload_n 0, 1) := by decide +kernel
theorem zd_MD_file_6 : decode zb_MD_file 6 = .ok (.getfield 181, 3) := by decide +kernel
theorem zd_MD_file_9 : decode zb_MD_file 9 = .ok (.ifCond .ne 5, 3) := by decide +kernel
theorem zd_MD_file_12 : decode zb_MD_file 12 = .ok (.iconst (-1), 1) := by decide +kernel
theorem zd_MD_file_13 : decode zb_MD_file 13 = .ok (.ireturn, 1) := by decide +kernel
theorem zd_MD_file_14 : decode zb_MD_file 14 = .ok (.iconst 0, 1) := by decide +kernel
theorem zd_MD_file_15 : decode zb_MD_file 15 = .ok (.istore_n 1, 1) := by decide +kernel
theorem zd_MD_file_16 : decode zb_MD_file 16 = .ok (.iload_n 1, 1) := by decide +kernel
theorem zd_MD_file_17 : decode zb_MD_file 17 = .ok (.aload_n 0, 1) := by decide +kernel
theorem zd_MD_file_18 : decode zb_MD_file 18 = .ok (.invokevirtual 185, 3) := by decide +kernel
theorem zd_MD_file_21 : decode zb_MD_file 21 = .ok (.if_icmp .ge 20, 3) := by decide +kernel
theorem zd_MD_file_24 : decode zb_MD_file 24 = .ok (.aload_n 0, 1) := by decide +kernel
theorem zd_MD_file_25 : decode zb_MD_file 25 = .ok (.getfield 47, 3) := by decide +kernel
theorem zd_MD_file_28 : decode zb_MD_file 28 = .ok (.iload_n 1, 1) := by decide +kernel
theorem zd_MD_file_29 : decode zb_MD_file 29 = .ok (.baload, 1) := by decide +kernel
theorem zd_MD_file_30 : decode zb_MD_file 30 = .ok (.ifCond .ne 5, 3) := by decide +kernel
theorem zd_MD_file_33 : decode zb_MD_file 33 = .ok (.iconst (-1), 1) := by decide +kernel
theorem zd_MD_file_34 : decode zb_MD_file 34 = .ok (.ireturn, 1) := by decide +kernel
theorem zd_MD_file_35 : decode zb_MD_file 35 = .ok (.iinc 1 1, 3) := by decide +kernel
theorem zd_MD_file_38 : decode zb_MD_file 38 = .ok (.goto (-22), 3) := by decide +kernel
theorem zd_MD_file_41 : decode zb_MD_file 41 = .ok (.aload_n 0, 1) := by decide +kernel
theorem zd_MD_file_42 : decode zb_MD_file 42 = .ok (.getfield 39, 3) := by decide +kernel
theorem zd_MD_file_45 : decode zb_MD_file 45 = .ok (.aload_n 0, 1) := by decide +kernel
theorem zd_MD_file_46 : decode zb_MD_file 46 = .ok (.getfield 62, 3) := by decide +kernel
theorem zd_MD_file_49 : decode zb_MD_file 49 = .ok (.aload_n 0, 1) := by decide +kernel
theorem zd_MD_file_50 : decode zb_MD_file 50 = .ok (.getfield 65, 3) := by decide +kernel
theorem zd_MD_file_53 : decode zb_MD_file 53 = .ok (.aload_n 0, 1) := by decide +kernel
theorem zd_MD_file_54 : decode zb_MD_file 54 = .ok (.getfield 51, 3) := by decide +kernel
theorem zd_MD_file_57 : decode zb_MD_file 57 = .ok (.invokevirtual 209, 3) := by decide +kernel
theorem zd_MD_file_60 : decode zb_MD_file 60 = .ok (.ireturn, 1) := by decide +kernel
set_option maxHeartbeats 4000000 in
set_option maxRecDepth 100000 in
theorem e_MD_file (l : Launch) (D : va_G) (tA : Nat → ClassId) (b : Nat) (f : zV) (n : Nat) (w : Int32) (h : Int32) (h0 : f 1185 = some (.inr (1, [.int w, .int h, .ref (b + 1186), .int 0, .ref (b + 1187), .ref (b + 1217), .ref (b + 1247), .ref (b + 1277), .ref (b + 1285), .ref (b + 1278), .int 0, .int 0, .int 0, .int 0, .ref (b + 1281), .int 0, .ref (b + 1282), .ref (b + 1283), .ref (b + 1284), .int (-1)])))  : zM l D tA b zy_MD_file zb_MD_file 2 (some .int) 0 0 0 0 [.ref (b + 1185)] f n (zE (some (.int (-1))) (zu (f) 1185 (.inr (1, [.int w, .int h, .ref (b + 1186), .int 0, .ref (b + 1187), .ref (b + 1217), .ref (b + 1247), .ref (b + 1277), .ref (b + 1285), .ref (b + 1278), .int 0, .int 0, .int 0, .int 0, .ref (b + 1281), .int 0, .ref (b + 1282), .ref (b + 1283), .ref (b + 1284), .int (-1)]))) n) := by
  refine zM_of (own := "OrreryBoxModel") (plainFor_of_name (by decide)) rfl (Nat.le_of_ble_eq_true rfl) (fun p e s m below meth c F hr hin hH => ?_)
  refine zr_aload_n F zd_MD_file_0 rfl ?_
  refine zr_iconstv (v := 0) F zd_MD_file_1 (by decide) ?_
  refine zr_put F 1 11 zd_MD_file_2 h0 rfl (by decide) zw_1691 rfl rfl rfl rfl (by exact (Nat.le_of_ble_eq_true rfl)) ?_
  refine zr_norm (zu (f) 1185 (.inr (1, [.int w, .int h, .ref (b + 1186), .int 0, .ref (b + 1187), .ref (b + 1217), .ref (b + 1247), .ref (b + 1277), .ref (b + 1285), .ref (b + 1278), .int 0, .int 0, .int 0, .int 0, .ref (b + 1281), .int 0, .ref (b + 1282), .ref (b + 1283), .ref (b + 1284), .int (-1)]))) _ (rfl) rfl ?_
  refine zr_aload_n F zd_MD_file_5 rfl ?_
  refine zr_get F 1 15 zd_MD_file_6 (zu_s _ _ _) rfl (by decide) zw_1695 rfl (by rfl) ?_
  refine zr_if_ne F 14 zd_MD_file_9 (by decide) (fun h => absurd h (by decide)) (fun _ => ?_)
  refine zr_iconstv (v := (-1)) F zd_MD_file_12 (by decide) ?_
  exact zr_iret F hr zd_MD_file_13 (Nat.le_of_ble_eq_true rfl) (Nat.le_of_ble_eq_true rfl) ⟨rfl, rfl, rfl⟩
abbrev zb_MD_tiles : ByteArray := prog_14_method_20_code
def zy_MD_tiles : MethodName := ⟨"OrreryBoxModel", "tiles", "()I"⟩
theorem zc_MD_tiles : Cond.code zy_MD_tiles zb_MD_tiles 1 (some .int) ∈ gw := gw_t 2046 (by decide +kernel) rfl
theorem zq_MD_tiles : zy_MD_tiles.cls ≠ "java/lang/invoke/MethodHandle" ∧ zy_MD_tiles.cls ≠ "java/lang/invoke/VarHandle" ∧ (parseMethodDescriptor zy_MD_tiles.desc).map (fun d => d.parameters.length) = some 0 := by decide +kernel
theorem zd_MD_tiles_0 : decode zb_MD_tiles 0 = .ok (.aload_n 0, 1) := by decide +kernel
theorem zd_MD_tiles_1 : decode zb_MD_tiles 1 = .ok (.invokevirtual 177, 3) := by decide +kernel
theorem zd_MD_tiles_4 : decode zb_MD_tiles 4 = .ok (.aload_n 0, 1) := by decide +kernel
theorem zd_MD_tiles_5 : decode zb_MD_tiles 5 = .ok (.getfield 65, 3) := by decide +kernel
theorem zd_MD_tiles_8 : decode zb_MD_tiles 8 = .ok (.bipush 7, 2) := by decide +kernel
theorem zd_MD_tiles_10 : decode zb_MD_tiles 10 = .ok (.iadd, 1) := by decide +kernel
theorem zd_MD_tiles_11 : decode zb_MD_tiles 11 = .ok (.bipush 8, 2) := by decide +kernel
theorem zd_MD_tiles_13 : decode zb_MD_tiles 13 = .ok (.idiv, 1) := by decide +kernel
theorem zd_MD_tiles_14 : decode zb_MD_tiles 14 = .ok (.imul, 1) := by decide +kernel
theorem zd_MD_tiles_15 : decode zb_MD_tiles 15 = .ok (.ireturn, 1) := by decide +kernel
theorem zw_2047 : (Jvm.Cond.methodLink "OrreryBoxModel" (177 : Nat) ({ cls := "OrreryBoxModel", name := "across", desc := "()I" } : Jvm.MethodName)) ∈ gw := gw_t 2047 (by decide +kernel) rfl
theorem zw_2049 : (Jvm.Cond.instanceMethod ({ cls := "OrreryBoxModel", name := "across", desc := "()I" } : Jvm.MethodName)) ∈ gw := gw_t 2049 (by decide +kernel) rfl
theorem zv_95 : (Jvm.Cond.selects "OrreryBoxModel" (⟨"OrreryBoxModel", "across", "()I"⟩ : MethodName) ⟨"OrreryBoxModel", "across", "()I"⟩) ∈ gw := gw_s 95 (by decide +kernel) rfl
theorem zs_MD_177 : zwV "OrreryBoxModel" 177 "OrreryBoxModel" zy_MD_across zb_MD_across 1 (some .int) := ⟨zw_2047, zw_2049, zv_95, zw_13, zc_MD_across⟩
set_option maxHeartbeats 4000000 in
set_option maxRecDepth 100000 in
theorem e_MD_tiles (l : Launch) (D : va_G) (tA : Nat → ClassId) (b : Nat) (f : zV) (n : Nat) (w : Int32) (h : Int32) (tp : Int32) (ti : Int32) (th : Int32) (wk : Int32) (wa : Int32) (bg : Int32) (pk : Int32) (h0 : f 1185 = some (.inr (1, [.int w, .int h, .ref (b + 1186), .int tp, .ref (b + 1187), .ref (b + 1217), .ref (b + 1247), .ref (b + 1277), .ref (b + 1285), .ref (b + 1278), .int ti, .int th, .int wk, .int wa, .ref (b + 1281), .int bg, .ref (b + 1282), .ref (b + 1283), .ref (b + 1284), .int pk])))  : zM l D tA b zy_MD_tiles zb_MD_tiles 1 (some .int) 1 20 0 0 [.ref (b + 1185)] f n (zE (some (.int (((sp_MD_across w h tp ti th wk wa bg pk) * ((h + 7) / 8))))) f n) := by
  refine zM_of (own := "OrreryBoxModel") (plainFor_of_name (by decide)) rfl (Nat.le_of_ble_eq_true rfl) (fun p e s m below meth c F hr hin hH => ?_)
  refine zr_aload_n F zd_MD_tiles_0 rfl ?_
  refine zr_callV1 F (c_MD_across l D tA b _ _ w h tp ti th wk wa bg pk h0 ) zd_MD_tiles_1 h0 rfl zs_MD_177 rfl zq_MD_across rfl rfl ⟨(Nat.le_of_ble_eq_true rfl), (Nat.le_of_ble_eq_true rfl)⟩ (Nat.le_of_ble_eq_true rfl) ⟨(Nat.le_of_ble_eq_true rfl), (Nat.le_of_ble_eq_true rfl)⟩ ?_
  refine zr_aload_n F zd_MD_tiles_4 rfl ?_
  refine zr_get F 1 1 zd_MD_tiles_5 h0 rfl (by decide) zw_1681 rfl (by rfl) ?_
  refine zr_bipushv (v := 7) F zd_MD_tiles_8 (by decide) ?_
  refine zr_iadd F zd_MD_tiles_10 ?_
  refine zr_bipushv (v := 8) F zd_MD_tiles_11 (by decide) ?_
  refine zr_idiv F zd_MD_tiles_13 (by decide) ?_
  refine zr_imul F zd_MD_tiles_14 ?_
  exact zr_iret F hr zd_MD_tiles_15 (Nat.le_of_ble_eq_true rfl) (Nat.le_of_ble_eq_true rfl) ⟨rfl, rfl, rfl⟩
abbrev zb_MPainter_goOver : ByteArray := prog_16_method_20_code
def zy_MPainter_goOver : MethodName := ⟨"OrreryBoxModel$Painter", "goOver", "()V"⟩
theorem zc_MPainter_goOver : Cond.code zy_MPainter_goOver zb_MPainter_goOver 4 none ∈ gw := gw_t 2062 (by decide +kernel) rfl
theorem zq_MPainter_goOver : zy_MPainter_goOver.cls ≠ "java/lang/invoke/MethodHandle" ∧ zy_MPainter_goOver.cls ≠ "java/lang/invoke/VarHandle" ∧ (parseMethodDescriptor zy_MPainter_goOver.desc).map (fun d => d.parameters.length) = some 0 := by decide +kernel
theorem zd_MPainter_goOver_0 : decode zb_MPainter_goOver 0 = .ok (.iconst 0, 1) := by decide +kernel
theorem zd_MPainter_goOver_1 : decode zb_MPainter_goOver 1 = .ok (.istore_n 1, 1) := by decide +kernel
theorem zd_MPainter_goOver_2 : decode zb_MPainter_goOver 2 = .ok (.aload_n 0, 1) := by decide +kernel
theorem zd_MPainter_goOver_3 : decode zb_MPainter_goOver 3 = .ok (.iconst 0, 1) := by decide +kernel
theorem zd_MPainter_goOver_4 : decode zb_MPainter_goOver 4 = .ok (.putfield 188, 3) := by decide +kernel
theorem zd_MPainter_goOver_7 : decode zb_MPainter_goOver 7 = .ok (.iconst 0, 1) := by decide +kernel
theorem zd_MPainter_goOver_8 : decode zb_MPainter_goOver 8 = .ok (.istore_n 2, 1) := by decide +kernel
theorem zd_MPainter_goOver_9 : decode zb_MPainter_goOver 9 = .ok (.iload_n 2, 1) := by decide +kernel
theorem zd_MPainter_goOver_10 : decode zb_MPainter_goOver 10 = .ok (.aload_n 0, 1) := by decide +kernel
theorem zd_MPainter_goOver_11 : decode zb_MPainter_goOver 11 = .ok (.getfield 129, 3) := by decide +kernel
theorem zd_MPainter_goOver_14 : decode zb_MPainter_goOver 14 = .ok (.getfield 191, 3) := by decide +kernel
theorem zd_MPainter_goOver_17 : decode zb_MPainter_goOver 17 = .ok (.if_icmp .ge 87, 3) := by decide +kernel
theorem zd_MPainter_goOver_20 : decode zb_MPainter_goOver 20 = .ok (.aload_n 0, 1) := by decide +kernel
theorem zd_MPainter_goOver_21 : decode zb_MPainter_goOver 21 = .ok (.iload_n 2, 1) := by decide +kernel
theorem zd_MPainter_goOver_22 : decode zb_MPainter_goOver 22 = .ok (.invokevirtual 194, 3) := by decide +kernel
theorem zd_MPainter_goOver_25 : decode zb_MPainter_goOver 25 = .ok (.ifCond .eq 73, 3) := by decide +kernel
theorem zd_MPainter_goOver_28 : decode zb_MPainter_goOver 28 = .ok (.aload_n 0, 1) := by decide +kernel
theorem zd_MPainter_goOver_29 : decode zb_MPainter_goOver 29 = .ok (.iload_n 2, 1) := by decide +kernel
theorem zd_MPainter_goOver_30 : decode zb_MPainter_goOver 30 = .ok (.invokevirtual 197, 3) := by decide +kernel
theorem zd_MPainter_goOver_33 : decode zb_MPainter_goOver 33 = .ok (.aload_n 0, 1) := by decide +kernel
theorem zd_MPainter_goOver_34 : decode zb_MPainter_goOver 34 = .ok (.getfield 34, 3) := by decide +kernel
theorem zd_MPainter_goOver_37 : decode zb_MPainter_goOver 37 = .ok (.iload_n 2, 1) := by decide +kernel
theorem zd_MPainter_goOver_38 : decode zb_MPainter_goOver 38 = .ok (.aload_n 0, 1) := by decide +kernel
theorem zd_MPainter_goOver_39 : decode zb_MPainter_goOver 39 = .ok (.getfield 18, 3) := by decide +kernel
theorem zd_MPainter_goOver_42 : decode zb_MPainter_goOver 42 = .ok (.bipush 11, 2) := by decide +kernel
theorem zd_MPainter_goOver_44 : decode zb_MPainter_goOver 44 = .ok (.laload, 1) := by decide +kernel
theorem zd_MPainter_goOver_45 : decode zb_MPainter_goOver 45 = .ok (.lastore, 1) := by decide +kernel
theorem zd_MPainter_goOver_46 : decode zb_MPainter_goOver 46 = .ok (.iload_n 1, 1) := by decide +kernel
theorem zd_MPainter_goOver_47 : decode zb_MPainter_goOver 47 = .ok (.istore_n 3, 1) := by decide +kernel
theorem zd_MPainter_goOver_48 : decode zb_MPainter_goOver 48 = .ok (.iload_n 3, 1) := by decide +kernel
theorem zd_MPainter_goOver_49 : decode zb_MPainter_goOver 49 = .ok (.ifCond .le 39, 3) := by decide +kernel
theorem zd_MPainter_goOver_52 : decode zb_MPainter_goOver 52 = .ok (.aload_n 0, 1) := by decide +kernel
theorem zd_MPainter_goOver_53 : decode zb_MPainter_goOver 53 = .ok (.iload_n 2, 1) := by decide +kernel
theorem zd_MPainter_goOver_54 : decode zb_MPainter_goOver 54 = .ok (.aload_n 0, 1) := by decide +kernel
theorem zd_MPainter_goOver_55 : decode zb_MPainter_goOver 55 = .ok (.getfield 37, 3) := by decide +kernel
theorem zd_MPainter_goOver_58 : decode zb_MPainter_goOver 58 = .ok (.iload_n 3, 1) := by decide +kernel
theorem zd_MPainter_goOver_59 : decode zb_MPainter_goOver 59 = .ok (.iconst 1, 1) := by decide +kernel
theorem zd_MPainter_goOver_60 : decode zb_MPainter_goOver 60 = .ok (.isub, 1) := by decide +kernel
theorem zd_MPainter_goOver_61 : decode zb_MPainter_goOver 61 = .ok (.iaload, 1) := by decide +kernel
theorem zd_MPainter_goOver_62 : decode zb_MPainter_goOver 62 = .ok (.invokevirtual 200, 3) := by decide +kernel
theorem zd_MPainter_goOver_65 : decode zb_MPainter_goOver 65 = .ok (.ifCond .eq 23, 3) := by decide +kernel
theorem zd_MPainter_goOver_68 : decode zb_MPainter_goOver 68 = .ok (.aload_n 0, 1) := by decide +kernel
theorem zd_MPainter_goOver_69 : decode zb_MPainter_goOver 69 = .ok (.getfield 37, 3) := by decide +kernel
theorem zd_MPainter_goOver_72 : decode zb_MPainter_goOver 72 = .ok (.iload_n 3, 1) := by decide +kernel
theorem zd_MPainter_goOver_73 : decode zb_MPainter_goOver 73 = .ok (.aload_n 0, 1) := by decide +kernel
theorem zd_MPainter_goOver_74 : decode zb_MPainter_goOver 74 = .ok (.getfield 37, 3) := by decide +kernel
theorem zd_MPainter_goOver_77 : decode zb_MPainter_goOver 77 = .ok (.iload_n 3, 1) := by decide +kernel
theorem zd_MPainter_goOver_78 : decode zb_MPainter_goOver 78 = .ok (.iconst 1, 1) := by decide +kernel
theorem zd_MPainter_goOver_79 : decode zb_MPainter_goOver 79 = .ok (.isub, 1) := by decide +kernel
theorem zd_MPainter_goOver_80 : decode zb_MPainter_goOver 80 = .ok (.iaload, 1) := by decide +kernel
theorem zd_MPainter_goOver_81 : decode zb_MPainter_goOver 81 = .ok (.iastore, 1) := by decide +kernel
theorem zd_MPainter_goOver_82 : decode zb_MPainter_goOver 82 = .ok (.iinc 3 (-1), 3) := by decide +kernel
theorem zd_MPainter_goOver_85 : decode zb_MPainter_goOver 85 = .ok (.goto (-37), 3) := by decide +kernel
theorem zd_MPainter_goOver_88 : decode zb_MPainter_goOver 88 = .ok (.aload_n 0, 1) := by decide +kernel
theorem zd_MPainter_goOver_89 : decode zb_MPainter_goOver 89 = .ok (.getfield 37, 3) := by decide +kernel
theorem zd_MPainter_goOver_92 : decode zb_MPainter_goOver 92 = .ok (.iload_n 3, 1) := by decide +kernel
theorem zd_MPainter_goOver_93 : decode zb_MPainter_goOver 93 = .ok (.iload_n 2, 1) := by decide +kernel
theorem zd_MPainter_goOver_94 : decode zb_MPainter_goOver 94 = .ok (.iastore, 1) := by decide +kernel
theorem zd_MPainter_goOver_95 : decode zb_MPainter_goOver 95 = .ok (.iinc 1 1, 3) := by decide +kernel
theorem zd_MPainter_goOver_98 : decode zb_MPainter_goOver 98 = .ok (.iinc 2 1, 3) := by decide +kernel
theorem zd_MPainter_goOver_101 : decode zb_MPainter_goOver 101 = .ok (.goto (-92), 3) := by decide +kernel
theorem zd_MPainter_goOver_104 : decode zb_MPainter_goOver 104 = .ok (.iconst 0, 1) := by decide +kernel
theorem zd_MPainter_goOver_105 : decode zb_MPainter_goOver 105 = .ok (.istore_n 2, 1) := by decide +kernel
theorem zd_MPainter_goOver_106 : decode zb_MPainter_goOver 106 = .ok (.iload_n 2, 1) := by decide +kernel
theorem zd_MPainter_goOver_107 : decode zb_MPainter_goOver 107 = .ok (.iload_n 1, 1) := by decide +kernel
theorem zd_MPainter_goOver_108 : decode zb_MPainter_goOver 108 = .ok (.if_icmp .ge 64, 3) := by decide +kernel
theorem zd_MPainter_goOver_111 : decode zb_MPainter_goOver 111 = .ok (.aload_n 0, 1) := by decide +kernel
theorem zd_MPainter_goOver_112 : decode zb_MPainter_goOver 112 = .ok (.aload_n 0, 1) := by decide +kernel
theorem zd_MPainter_goOver_113 : decode zb_MPainter_goOver 113 = .ok (.getfield 37, 3) := by decide +kernel
theorem zd_MPainter_goOver_116 : decode zb_MPainter_goOver 116 = .ok (.iload_n 2, 1) := by decide +kernel
theorem zd_MPainter_goOver_117 : decode zb_MPainter_goOver 117 = .ok (.iaload, 1) := by decide +kernel
theorem zd_MPainter_goOver_118 : decode zb_MPainter_goOver 118 = .ok (.invokevirtual 197, 3) := by decide +kernel
theorem zd_MPainter_goOver_121 : decode zb_MPainter_goOver 121 = .ok (.iconst 0, 1) := by decide +kernel
theorem zd_MPainter_goOver_122 : decode zb_MPainter_goOver 122 = .ok (.istore_n 3, 1) := by decide +kernel
theorem zd_MPainter_goOver_123 : decode zb_MPainter_goOver 123 = .ok (.iload_n 3, 1) := by decide +kernel
theorem zd_MPainter_goOver_124 : decode zb_MPainter_goOver 124 = .ok (.aload_n 0, 1) := by decide +kernel
theorem zd_MPainter_goOver_125 : decode zb_MPainter_goOver 125 = .ok (.getfield 129, 3) := by decide +kernel
theorem zd_MPainter_goOver_128 : decode zb_MPainter_goOver 128 = .ok (.getfield 204, 3) := by decide +kernel
theorem zd_MPainter_goOver_131 : decode zb_MPainter_goOver 131 = .ok (.aload_n 0, 1) := by decide +kernel
theorem zd_MPainter_goOver_132 : decode zb_MPainter_goOver 132 = .ok (.getfield 129, 3) := by decide +kernel
theorem zd_MPainter_goOver_135 : decode zb_MPainter_goOver 135 = .ok (.getfield 167, 3) := by decide +kernel
theorem zd_MPainter_goOver_138 : decode zb_MPainter_goOver 138 = .ok (.aload_n 0, 1) := by decide +kernel
theorem zd_MPainter_goOver_139 : decode zb_MPainter_goOver 139 = .ok (.getfield 37, 3) := by decide +kernel
theorem zd_MPainter_goOver_142 : decode zb_MPainter_goOver 142 = .ok (.iload_n 2, 1) := by decide +kernel
theorem zd_MPainter_goOver_143 : decode zb_MPainter_goOver 143 = .ok (.iaload, 1) := by decide +kernel
theorem zd_MPainter_goOver_144 : decode zb_MPainter_goOver 144 = .ok (.iaload, 1) := by decide +kernel
theorem zd_MPainter_goOver_145 : decode zb_MPainter_goOver 145 = .ok (.iaload, 1) := by decide +kernel
theorem zd_MPainter_goOver_146 : decode zb_MPainter_goOver 146 = .ok (.if_icmp .ge 20, 3) := by decide +kernel
theorem zd_MPainter_goOver_149 : decode zb_MPainter_goOver 149 = .ok (.aload_n 0, 1) := by decide +kernel
theorem zd_MPainter_goOver_150 : decode zb_MPainter_goOver 150 = .ok (.aload_n 0, 1) := by decide +kernel
theorem zd_MPainter_goOver_151 : decode zb_MPainter_goOver 151 = .ok (.getfield 37, 3) := by decide +kernel
theorem zd_MPainter_goOver_154 : decode zb_MPainter_goOver 154 = .ok (.iload_n 2, 1) := by decide +kernel
theorem zd_MPainter_goOver_155 : decode zb_MPainter_goOver 155 = .ok (.iaload, 1) := by decide +kernel
theorem zd_MPainter_goOver_156 : decode zb_MPainter_goOver 156 = .ok (.iload_n 3, 1) := by decide +kernel
theorem zd_MPainter_goOver_157 : decode zb_MPainter_goOver 157 = .ok (.invokevirtual 207, 3) := by decide +kernel
theorem zd_MPainter_goOver_160 : decode zb_MPainter_goOver 160 = .ok (.iinc 3 1, 3) := by decide +kernel
theorem zd_MPainter_goOver_163 : decode zb_MPainter_goOver 163 = .ok (.goto (-40), 3) := by decide +kernel
theorem zd_MPainter_goOver_166 : decode zb_MPainter_goOver 166 = .ok (.iinc 2 1, 3) := by decide +kernel
theorem zd_MPainter_goOver_169 : decode zb_MPainter_goOver 169 = .ok (.goto (-63), 3) := by decide +kernel
theorem zd_MPainter_goOver_172 : decode zb_MPainter_goOver 172 = .ok (.return_, 1) := by decide +kernel
theorem zw_1576 : (Jvm.Cond.fieldLink "OrreryBoxModel$Painter" (188 : Nat) "OrreryBoxModel$Painter" "pieces" "I") ∈ gw := gw_t 1576 (by decide +kernel) rfl
theorem zw_1581 : (Jvm.Cond.fieldLink "OrreryBoxModel$Painter" (129 : Nat) "OrreryBoxModel$Painter" "scene" "LOrreryBoxModel$Scene;") ∈ gw := gw_t 1581 (by decide +kernel) rfl
theorem zw_1327 : (Jvm.Cond.fieldLink "OrreryBoxModel$Painter" (191 : Nat) "OrreryBoxModel$Scene" "nodes" "I") ∈ gw := gw_t 1327 (by decide +kernel) rfl
set_option maxHeartbeats 4000000 in
set_option maxRecDepth 100000 in
theorem e_MPainter_goOver (l : Launch) (D : va_G) (tA : Nat → ClassId) (b : Nat) (f : zV) (n : Nat) (pc : Int32) (w : Int32) (h : Int32) (lf : Int32) (tp : Int32) (rg : Int32) (bt : Int32) (pn : Int32) (bo : Int32) (bf : Int32) (bn : Int64) (co : Int32) (hq : f 1285 = some (.inr (13, [.int pc, .int w, .int h, .ref (b + 1283), .ref (b + 1284), .ref (b + 1187), .int lf, .int tp, .int rg, .int bt, .int pn, .int bo, .int bf, .long bn, .ref (b + 1286), .ref (b + (1286 + 1)), .ref (b + (1286 + 2)), .ref (b + (1286 + 3)), .ref (b + (1286 + 4)), .ref (b + (1286 + 5)), .ref (b + (1286 + 6)), .ref (b + (1286 + 7)), .ref (b + (1286 + 8)), .ref (b + (1286 + 9)), .ref (b + (1286 + 10)), .ref (b + (1286 + 11)), .int co, .ref (b + (1286 + 12)), .ref (b + (1286 + 13)), .ref (b + (1286 + 14)), .ref (b + (1286 + 15))]))) (hs : f 1187 = some (.inr (15, msO b 1188 0 0 0 0 0 32 16384)))  : zM l D tA b zy_MPainter_goOver zb_MPainter_goOver 4 none 0 0 0 0 [.ref (b + 1285)] f n (zE none (zu (f) 1285 (.inr (13, [.int 0, .int w, .int h, .ref (b + 1283), .ref (b + 1284), .ref (b + 1187), .int lf, .int tp, .int rg, .int bt, .int pn, .int bo, .int bf, .long bn, .ref (b + 1286), .ref (b + (1286 + 1)), .ref (b + (1286 + 2)), .ref (b + (1286 + 3)), .ref (b + (1286 + 4)), .ref (b + (1286 + 5)), .ref (b + (1286 + 6)), .ref (b + (1286 + 7)), .ref (b + (1286 + 8)), .ref (b + (1286 + 9)), .ref (b + (1286 + 10)), .ref (b + (1286 + 11)), .int co, .ref (b + (1286 + 12)), .ref (b + (1286 + 13)), .ref (b + (1286 + 14)), .ref (b + (1286 + 15))]))) n) := by
  refine zM_of (own := "OrreryBoxModel$Painter") (plainFor_of_name (by decide)) rfl (Nat.le_of_ble_eq_true rfl) (fun p e s m below meth c F hr hin hH => ?_)
  refine zr_iconstv (v := 0) F zd_MPainter_goOver_0 (by decide) ?_
  refine zr_istore_n F zd_MPainter_goOver_1 (by decide) ?_
  refine zr_aload_n F zd_MPainter_goOver_2 rfl ?_
  refine zr_iconstv (v := 0) F zd_MPainter_goOver_3 (by decide) ?_
  refine zr_put F 13 0 zd_MPainter_goOver_4 hq rfl (by decide) zw_1576 rfl rfl rfl rfl (by exact (Nat.le_of_ble_eq_true rfl)) ?_
  refine zr_norm (zu (f) 1285 (.inr (13, [.int 0, .int w, .int h, .ref (b + 1283), .ref (b + 1284), .ref (b + 1187), .int lf, .int tp, .int rg, .int bt, .int pn, .int bo, .int bf, .long bn, .ref (b + 1286), .ref (b + (1286 + 1)), .ref (b + (1286 + 2)), .ref (b + (1286 + 3)), .ref (b + (1286 + 4)), .ref (b + (1286 + 5)), .ref (b + (1286 + 6)), .ref (b + (1286 + 7)), .ref (b + (1286 + 8)), .ref (b + (1286 + 9)), .ref (b + (1286 + 10)), .ref (b + (1286 + 11)), .int co, .ref (b + (1286 + 12)), .ref (b + (1286 + 13)), .ref (b + (1286 + 14)), .ref (b + (1286 + 15))]))) _ (rfl) rfl ?_
  refine zr_iconstv (v := 0) F zd_MPainter_goOver_7 (by decide) ?_
  refine zr_istore_n F zd_MPainter_goOver_8 (by decide) ?_
  refine zr_iload_n F zd_MPainter_goOver_9 rfl ?_
  refine zr_aload_n F zd_MPainter_goOver_10 rfl ?_
  refine zr_get F 13 5 zd_MPainter_goOver_11 (zu_s _ _ _) rfl (by decide) zw_1581 rfl (by rfl) ?_
  refine zr_get F 15 3 zd_MPainter_goOver_14 ((zu_n _ (by omega)).trans hs) rfl (by decide) zw_1327 rfl (by rfl) ?_
  refine zr_icmp_ge F 104 zd_MPainter_goOver_17 (by decide) (fun _ => ?_) (fun h => absurd h (by decide))
  refine zr_iconstv (v := 0) F zd_MPainter_goOver_104 (by decide) ?_
  refine zr_istore_n F zd_MPainter_goOver_105 (by decide) ?_
  refine zr_iload_n F zd_MPainter_goOver_106 rfl ?_
  refine zr_iload_n F zd_MPainter_goOver_107 rfl ?_
  refine zr_icmp_ge F 172 zd_MPainter_goOver_108 (by decide) (fun _ => ?_) (fun h => absurd h (by decide))
  exact zr_vret F hr zd_MPainter_goOver_172 (Nat.le_of_ble_eq_true rfl) (Nat.le_of_ble_eq_true rfl) ⟨rfl, rfl, rfl⟩
abbrev zb_MPainter_pick : ByteArray := prog_16_method_36_code
def zy_MPainter_pick : MethodName := ⟨"OrreryBoxModel$Painter", "pick", "(LOrreryBoxModel$Scene;II)V"⟩
theorem zc_MPainter_pick : Cond.code zy_MPainter_pick zb_MPainter_pick 4 none ∈ gw := gw_t 2177 (by decide +kernel) rfl
theorem zq_MPainter_pick : zy_MPainter_pick.cls ≠ "java/lang/invoke/MethodHandle" ∧ zy_MPainter_pick.cls ≠ "java/lang/invoke/VarHandle" ∧ (parseMethodDescriptor zy_MPainter_pick.desc).map (fun d => d.parameters.length) = some 3 := by decide +kernel
theorem zd_MPainter_pick_0 : decode zb_MPainter_pick 0 = .ok (.aload_n 0, 1) := by decide +kernel
theorem zd_MPainter_pick_1 : decode zb_MPainter_pick 1 = .ok (.aload_n 1, 1) := by decide +kernel
theorem zd_MPainter_pick_2 : decode zb_MPainter_pick 2 = .ok (.putfield 129, 3) := by decide +kernel
theorem zd_MPainter_pick_5 : decode zb_MPainter_pick 5 = .ok (.aload_n 0, 1) := by decide +kernel
theorem zd_MPainter_pick_6 : decode zb_MPainter_pick 6 = .ok (.iconst 0, 1) := by decide +kernel
theorem zd_MPainter_pick_7 : decode zb_MPainter_pick 7 = .ok (.putfield 289, 3) := by decide +kernel
theorem zd_MPainter_pick_10 : decode zb_MPainter_pick 10 = .ok (.aload_n 0, 1) := by decide +kernel
theorem zd_MPainter_pick_11 : decode zb_MPainter_pick 11 = .ok (.iload_n 2, 1) := by decide +kernel
theorem zd_MPainter_pick_12 : decode zb_MPainter_pick 12 = .ok (.putfield 271, 3) := by decide +kernel
theorem zd_MPainter_pick_15 : decode zb_MPainter_pick 15 = .ok (.aload_n 0, 1) := by decide +kernel
theorem zd_MPainter_pick_16 : decode zb_MPainter_pick 16 = .ok (.iload_n 3, 1) := by decide +kernel
theorem zd_MPainter_pick_17 : decode zb_MPainter_pick 17 = .ok (.putfield 265, 3) := by decide +kernel
theorem zd_MPainter_pick_20 : decode zb_MPainter_pick 20 = .ok (.aload_n 0, 1) := by decide +kernel
theorem zd_MPainter_pick_21 : decode zb_MPainter_pick 21 = .ok (.iload_n 2, 1) := by decide +kernel
theorem zd_MPainter_pick_22 : decode zb_MPainter_pick 22 = .ok (.iconst 1, 1) := by decide +kernel
theorem zd_MPainter_pick_23 : decode zb_MPainter_pick 23 = .ok (.iadd, 1) := by decide +kernel
theorem zd_MPainter_pick_24 : decode zb_MPainter_pick 24 = .ok (.putfield 274, 3) := by decide +kernel
theorem zd_MPainter_pick_27 : decode zb_MPainter_pick 27 = .ok (.aload_n 0, 1) := by decide +kernel
theorem zd_MPainter_pick_28 : decode zb_MPainter_pick 28 = .ok (.iload_n 3, 1) := by decide +kernel
theorem zd_MPainter_pick_29 : decode zb_MPainter_pick 29 = .ok (.iconst 1, 1) := by decide +kernel
theorem zd_MPainter_pick_30 : decode zb_MPainter_pick 30 = .ok (.iadd, 1) := by decide +kernel
theorem zd_MPainter_pick_31 : decode zb_MPainter_pick 31 = .ok (.putfield 268, 3) := by decide +kernel
theorem zd_MPainter_pick_34 : decode zb_MPainter_pick 34 = .ok (.aload_n 0, 1) := by decide +kernel
theorem zd_MPainter_pick_35 : decode zb_MPainter_pick 35 = .ok (.iconst (-1), 1) := by decide +kernel
theorem zd_MPainter_pick_36 : decode zb_MPainter_pick 36 = .ok (.putfield 293, 3) := by decide +kernel
theorem zd_MPainter_pick_39 : decode zb_MPainter_pick 39 = .ok (.aload_n 0, 1) := by decide +kernel
theorem zd_MPainter_pick_40 : decode zb_MPainter_pick 40 = .ok (.iconst (-1), 1) := by decide +kernel
theorem zd_MPainter_pick_41 : decode zb_MPainter_pick 41 = .ok (.putfield 300, 3) := by decide +kernel
theorem zd_MPainter_pick_44 : decode zb_MPainter_pick 44 = .ok (.aload_n 0, 1) := by decide +kernel
theorem zd_MPainter_pick_45 : decode zb_MPainter_pick 45 = .ok (.lconst 0, 1) := by decide +kernel
theorem zd_MPainter_pick_46 : decode zb_MPainter_pick 46 = .ok (.putfield 296, 3) := by decide +kernel
theorem zd_MPainter_pick_49 : decode zb_MPainter_pick 49 = .ok (.aload_n 0, 1) := by decide +kernel
theorem zd_MPainter_pick_50 : decode zb_MPainter_pick 50 = .ok (.invokevirtual 346, 3) := by decide +kernel
theorem zd_MPainter_pick_53 : decode zb_MPainter_pick 53 = .ok (.return_, 1) := by decide +kernel
theorem zw_1587 : (Jvm.Cond.fieldLink "OrreryBoxModel$Painter" (289 : Nat) "OrreryBoxModel$Painter" "paints" "Z") ∈ gw := gw_t 1587 (by decide +kernel) rfl
theorem zw_1583 : (Jvm.Cond.fieldLink "OrreryBoxModel$Painter" (271 : Nat) "OrreryBoxModel$Painter" "left" "I") ∈ gw := gw_t 1583 (by decide +kernel) rfl
theorem zw_1584 : (Jvm.Cond.fieldLink "OrreryBoxModel$Painter" (265 : Nat) "OrreryBoxModel$Painter" "top" "I") ∈ gw := gw_t 1584 (by decide +kernel) rfl
theorem zw_1585 : (Jvm.Cond.fieldLink "OrreryBoxModel$Painter" (274 : Nat) "OrreryBoxModel$Painter" "right" "I") ∈ gw := gw_t 1585 (by decide +kernel) rfl
theorem zw_1586 : (Jvm.Cond.fieldLink "OrreryBoxModel$Painter" (268 : Nat) "OrreryBoxModel$Painter" "bottom" "I") ∈ gw := gw_t 1586 (by decide +kernel) rfl
theorem zw_1589 : (Jvm.Cond.fieldLink "OrreryBoxModel$Painter" (293 : Nat) "OrreryBoxModel$Painter" "bestNode" "I") ∈ gw := gw_t 1589 (by decide +kernel) rfl
theorem zw_1591 : (Jvm.Cond.fieldLink "OrreryBoxModel$Painter" (300 : Nat) "OrreryBoxModel$Painter" "bestFace" "I") ∈ gw := gw_t 1591 (by decide +kernel) rfl
theorem zw_1592 : (Jvm.Cond.fieldLink "OrreryBoxModel$Painter" (296 : Nat) "OrreryBoxModel$Painter" "bestNear" "J") ∈ gw := gw_t 1592 (by decide +kernel) rfl
theorem zw_2059 : (Jvm.Cond.methodLink "OrreryBoxModel$Painter" (346 : Nat) ({ cls := "OrreryBoxModel$Painter", name := "goOver", desc := "()V" } : Jvm.MethodName)) ∈ gw := gw_t 2059 (by decide +kernel) rfl
theorem zw_2061 : (Jvm.Cond.instanceMethod ({ cls := "OrreryBoxModel$Painter", name := "goOver", desc := "()V" } : Jvm.MethodName)) ∈ gw := gw_t 2061 (by decide +kernel) rfl
theorem zv_96 : (Jvm.Cond.selects "OrreryBoxModel$Painter" (⟨"OrreryBoxModel$Painter", "goOver", "()V"⟩ : MethodName) ⟨"OrreryBoxModel$Painter", "goOver", "()V"⟩) ∈ gw := gw_s 96 (by decide +kernel) rfl
theorem zs_MPainter_346 : zwV "OrreryBoxModel$Painter" 346 "OrreryBoxModel$Painter" zy_MPainter_goOver zb_MPainter_goOver 4 none := ⟨zw_2059, zw_2061, zv_96, zw_17, zc_MPainter_goOver⟩
set_option maxHeartbeats 4000000 in
set_option maxRecDepth 100000 in
theorem e_MPainter_pick (l : Launch) (D : va_G) (tA : Nat → ClassId) (b : Nat) (f : zV) (n : Nat) (x : Int32) (y : Int32) (sc : Value) (pc : Int32) (w : Int32) (h : Int32) (lf : Int32) (tp : Int32) (rg : Int32) (bt : Int32) (pn : Int32) (bo : Int32) (bf : Int32) (bn : Int64) (co : Int32) (hq : f 1285 = some (.inr (13, [.int pc, .int w, .int h, .ref (b + 1283), .ref (b + 1284), sc, .int lf, .int tp, .int rg, .int bt, .int pn, .int bo, .int bf, .long bn, .ref (b + 1286), .ref (b + (1286 + 1)), .ref (b + (1286 + 2)), .ref (b + (1286 + 3)), .ref (b + (1286 + 4)), .ref (b + (1286 + 5)), .ref (b + (1286 + 6)), .ref (b + (1286 + 7)), .ref (b + (1286 + 8)), .ref (b + (1286 + 9)), .ref (b + (1286 + 10)), .ref (b + (1286 + 11)), .int co, .ref (b + (1286 + 12)), .ref (b + (1286 + 13)), .ref (b + (1286 + 14)), .ref (b + (1286 + 15))]))) (hs : f 1187 = some (.inr (15, msO b 1188 0 0 0 0 0 32 16384)))  : zM l D tA b zy_MPainter_pick zb_MPainter_pick 4 none 1 23 0 0 [.ref (b + 1285), .ref (b + 1187), .int x, .int y] f n (zE none (zu (f) 1285 (.inr (13, [.int 0, .int w, .int h, .ref (b + 1283), .ref (b + 1284), .ref (b + 1187), .int x, .int y, .int (x + 1), .int (y + 1), .int 0, .int (-1), .int (-1), .long 0, .ref (b + 1286), .ref (b + (1286 + 1)), .ref (b + (1286 + 2)), .ref (b + (1286 + 3)), .ref (b + (1286 + 4)), .ref (b + (1286 + 5)), .ref (b + (1286 + 6)), .ref (b + (1286 + 7)), .ref (b + (1286 + 8)), .ref (b + (1286 + 9)), .ref (b + (1286 + 10)), .ref (b + (1286 + 11)), .int co, .ref (b + (1286 + 12)), .ref (b + (1286 + 13)), .ref (b + (1286 + 14)), .ref (b + (1286 + 15))]))) n) := by
  refine zM_of (own := "OrreryBoxModel$Painter") (plainFor_of_name (by decide)) rfl (Nat.le_of_ble_eq_true rfl) (fun p e s m below meth c F hr hin hH => ?_)
  refine zr_aload_n F zd_MPainter_pick_0 rfl ?_
  refine zr_aload_n F zd_MPainter_pick_1 rfl ?_
  refine zr_put F 13 5 zd_MPainter_pick_2 hq rfl (by decide) zw_1581 rfl rfl rfl rfl (by exact (Nat.le_of_ble_eq_true rfl)) ?_
  refine zr_norm (zu (f) 1285 (.inr (13, [.int pc, .int w, .int h, .ref (b + 1283), .ref (b + 1284), .ref (b + 1187), .int lf, .int tp, .int rg, .int bt, .int pn, .int bo, .int bf, .long bn, .ref (b + 1286), .ref (b + (1286 + 1)), .ref (b + (1286 + 2)), .ref (b + (1286 + 3)), .ref (b + (1286 + 4)), .ref (b + (1286 + 5)), .ref (b + (1286 + 6)), .ref (b + (1286 + 7)), .ref (b + (1286 + 8)), .ref (b + (1286 + 9)), .ref (b + (1286 + 10)), .ref (b + (1286 + 11)), .int co, .ref (b + (1286 + 12)), .ref (b + (1286 + 13)), .ref (b + (1286 + 14)), .ref (b + (1286 + 15))]))) _ (rfl) rfl ?_
  refine zr_aload_n F zd_MPainter_pick_5 rfl ?_
  refine zr_iconstv (v := 0) F zd_MPainter_pick_6 (by decide) ?_
  refine zr_put F 13 10 zd_MPainter_pick_7 (zu_s _ _ _) rfl (by decide) zw_1587 rfl rfl rfl rfl (by exact (Nat.le_of_ble_eq_true rfl)) ?_
  refine zr_norm (zu (f) 1285 (.inr (13, [.int pc, .int w, .int h, .ref (b + 1283), .ref (b + 1284), .ref (b + 1187), .int lf, .int tp, .int rg, .int bt, .int 0, .int bo, .int bf, .long bn, .ref (b + 1286), .ref (b + (1286 + 1)), .ref (b + (1286 + 2)), .ref (b + (1286 + 3)), .ref (b + (1286 + 4)), .ref (b + (1286 + 5)), .ref (b + (1286 + 6)), .ref (b + (1286 + 7)), .ref (b + (1286 + 8)), .ref (b + (1286 + 9)), .ref (b + (1286 + 10)), .ref (b + (1286 + 11)), .int co, .ref (b + (1286 + 12)), .ref (b + (1286 + 13)), .ref (b + (1286 + 14)), .ref (b + (1286 + 15))]))) _ (zu_zu _ _ _ _) rfl ?_
  refine zr_aload_n F zd_MPainter_pick_10 rfl ?_
  refine zr_iload_n F zd_MPainter_pick_11 rfl ?_
  refine zr_put F 13 6 zd_MPainter_pick_12 (zu_s _ _ _) rfl (by decide) zw_1583 rfl rfl rfl rfl (by exact (Nat.le_of_ble_eq_true rfl)) ?_
  refine zr_norm (zu (f) 1285 (.inr (13, [.int pc, .int w, .int h, .ref (b + 1283), .ref (b + 1284), .ref (b + 1187), .int x, .int tp, .int rg, .int bt, .int 0, .int bo, .int bf, .long bn, .ref (b + 1286), .ref (b + (1286 + 1)), .ref (b + (1286 + 2)), .ref (b + (1286 + 3)), .ref (b + (1286 + 4)), .ref (b + (1286 + 5)), .ref (b + (1286 + 6)), .ref (b + (1286 + 7)), .ref (b + (1286 + 8)), .ref (b + (1286 + 9)), .ref (b + (1286 + 10)), .ref (b + (1286 + 11)), .int co, .ref (b + (1286 + 12)), .ref (b + (1286 + 13)), .ref (b + (1286 + 14)), .ref (b + (1286 + 15))]))) _ (zu_zu _ _ _ _) rfl ?_
  refine zr_aload_n F zd_MPainter_pick_15 rfl ?_
  refine zr_iload_n F zd_MPainter_pick_16 rfl ?_
  refine zr_put F 13 7 zd_MPainter_pick_17 (zu_s _ _ _) rfl (by decide) zw_1584 rfl rfl rfl rfl (by exact (Nat.le_of_ble_eq_true rfl)) ?_
  refine zr_norm (zu (f) 1285 (.inr (13, [.int pc, .int w, .int h, .ref (b + 1283), .ref (b + 1284), .ref (b + 1187), .int x, .int y, .int rg, .int bt, .int 0, .int bo, .int bf, .long bn, .ref (b + 1286), .ref (b + (1286 + 1)), .ref (b + (1286 + 2)), .ref (b + (1286 + 3)), .ref (b + (1286 + 4)), .ref (b + (1286 + 5)), .ref (b + (1286 + 6)), .ref (b + (1286 + 7)), .ref (b + (1286 + 8)), .ref (b + (1286 + 9)), .ref (b + (1286 + 10)), .ref (b + (1286 + 11)), .int co, .ref (b + (1286 + 12)), .ref (b + (1286 + 13)), .ref (b + (1286 + 14)), .ref (b + (1286 + 15))]))) _ (zu_zu _ _ _ _) rfl ?_
  refine zr_aload_n F zd_MPainter_pick_20 rfl ?_
  refine zr_iload_n F zd_MPainter_pick_21 rfl ?_
  refine zr_iconstv (v := 1) F zd_MPainter_pick_22 (by decide) ?_
  refine zr_iadd F zd_MPainter_pick_23 ?_
  refine zr_put F 13 8 zd_MPainter_pick_24 (zu_s _ _ _) rfl (by decide) zw_1585 rfl rfl rfl rfl (by exact (Nat.le_of_ble_eq_true rfl)) ?_
  refine zr_norm (zu (f) 1285 (.inr (13, [.int pc, .int w, .int h, .ref (b + 1283), .ref (b + 1284), .ref (b + 1187), .int x, .int y, .int (x + 1), .int bt, .int 0, .int bo, .int bf, .long bn, .ref (b + 1286), .ref (b + (1286 + 1)), .ref (b + (1286 + 2)), .ref (b + (1286 + 3)), .ref (b + (1286 + 4)), .ref (b + (1286 + 5)), .ref (b + (1286 + 6)), .ref (b + (1286 + 7)), .ref (b + (1286 + 8)), .ref (b + (1286 + 9)), .ref (b + (1286 + 10)), .ref (b + (1286 + 11)), .int co, .ref (b + (1286 + 12)), .ref (b + (1286 + 13)), .ref (b + (1286 + 14)), .ref (b + (1286 + 15))]))) _ (zu_zu _ _ _ _) rfl ?_
  refine zr_aload_n F zd_MPainter_pick_27 rfl ?_
  refine zr_iload_n F zd_MPainter_pick_28 rfl ?_
  refine zr_iconstv (v := 1) F zd_MPainter_pick_29 (by decide) ?_
  refine zr_iadd F zd_MPainter_pick_30 ?_
  refine zr_put F 13 9 zd_MPainter_pick_31 (zu_s _ _ _) rfl (by decide) zw_1586 rfl rfl rfl rfl (by exact (Nat.le_of_ble_eq_true rfl)) ?_
  refine zr_norm (zu (f) 1285 (.inr (13, [.int pc, .int w, .int h, .ref (b + 1283), .ref (b + 1284), .ref (b + 1187), .int x, .int y, .int (x + 1), .int (y + 1), .int 0, .int bo, .int bf, .long bn, .ref (b + 1286), .ref (b + (1286 + 1)), .ref (b + (1286 + 2)), .ref (b + (1286 + 3)), .ref (b + (1286 + 4)), .ref (b + (1286 + 5)), .ref (b + (1286 + 6)), .ref (b + (1286 + 7)), .ref (b + (1286 + 8)), .ref (b + (1286 + 9)), .ref (b + (1286 + 10)), .ref (b + (1286 + 11)), .int co, .ref (b + (1286 + 12)), .ref (b + (1286 + 13)), .ref (b + (1286 + 14)), .ref (b + (1286 + 15))]))) _ (zu_zu _ _ _ _) rfl ?_
  refine zr_aload_n F zd_MPainter_pick_34 rfl ?_
  refine zr_iconstv (v := (-1)) F zd_MPainter_pick_35 (by decide) ?_
  refine zr_put F 13 11 zd_MPainter_pick_36 (zu_s _ _ _) rfl (by decide) zw_1589 rfl rfl rfl rfl (by exact (Nat.le_of_ble_eq_true rfl)) ?_
  refine zr_norm (zu (f) 1285 (.inr (13, [.int pc, .int w, .int h, .ref (b + 1283), .ref (b + 1284), .ref (b + 1187), .int x, .int y, .int (x + 1), .int (y + 1), .int 0, .int (-1), .int bf, .long bn, .ref (b + 1286), .ref (b + (1286 + 1)), .ref (b + (1286 + 2)), .ref (b + (1286 + 3)), .ref (b + (1286 + 4)), .ref (b + (1286 + 5)), .ref (b + (1286 + 6)), .ref (b + (1286 + 7)), .ref (b + (1286 + 8)), .ref (b + (1286 + 9)), .ref (b + (1286 + 10)), .ref (b + (1286 + 11)), .int co, .ref (b + (1286 + 12)), .ref (b + (1286 + 13)), .ref (b + (1286 + 14)), .ref (b + (1286 + 15))]))) _ (zu_zu _ _ _ _) rfl ?_
  refine zr_aload_n F zd_MPainter_pick_39 rfl ?_
  refine zr_iconstv (v := (-1)) F zd_MPainter_pick_40 (by decide) ?_
  refine zr_put F 13 12 zd_MPainter_pick_41 (zu_s _ _ _) rfl (by decide) zw_1591 rfl rfl rfl rfl (by exact (Nat.le_of_ble_eq_true rfl)) ?_
  refine zr_norm (zu (f) 1285 (.inr (13, [.int pc, .int w, .int h, .ref (b + 1283), .ref (b + 1284), .ref (b + 1187), .int x, .int y, .int (x + 1), .int (y + 1), .int 0, .int (-1), .int (-1), .long bn, .ref (b + 1286), .ref (b + (1286 + 1)), .ref (b + (1286 + 2)), .ref (b + (1286 + 3)), .ref (b + (1286 + 4)), .ref (b + (1286 + 5)), .ref (b + (1286 + 6)), .ref (b + (1286 + 7)), .ref (b + (1286 + 8)), .ref (b + (1286 + 9)), .ref (b + (1286 + 10)), .ref (b + (1286 + 11)), .int co, .ref (b + (1286 + 12)), .ref (b + (1286 + 13)), .ref (b + (1286 + 14)), .ref (b + (1286 + 15))]))) _ (zu_zu _ _ _ _) rfl ?_
  refine zr_aload_n F zd_MPainter_pick_44 rfl ?_
  refine zr_lconstv (v := 0) F zd_MPainter_pick_45 (by decide) ?_
  refine zr_put F 13 13 zd_MPainter_pick_46 (zu_s _ _ _) rfl (by decide) zw_1592 rfl rfl rfl rfl (by exact (Nat.le_of_ble_eq_true rfl)) ?_
  refine zr_norm (zu (f) 1285 (.inr (13, [.int pc, .int w, .int h, .ref (b + 1283), .ref (b + 1284), .ref (b + 1187), .int x, .int y, .int (x + 1), .int (y + 1), .int 0, .int (-1), .int (-1), .long 0, .ref (b + 1286), .ref (b + (1286 + 1)), .ref (b + (1286 + 2)), .ref (b + (1286 + 3)), .ref (b + (1286 + 4)), .ref (b + (1286 + 5)), .ref (b + (1286 + 6)), .ref (b + (1286 + 7)), .ref (b + (1286 + 8)), .ref (b + (1286 + 9)), .ref (b + (1286 + 10)), .ref (b + (1286 + 11)), .int co, .ref (b + (1286 + 12)), .ref (b + (1286 + 13)), .ref (b + (1286 + 14)), .ref (b + (1286 + 15))]))) _ (zu_zu _ _ _ _) rfl ?_
  refine zr_aload_n F zd_MPainter_pick_49 rfl ?_
  refine zr_callV0 F (e_MPainter_goOver l D tA b _ _ pc w h x y (x + 1) (y + 1) 0 (-1) (-1) 0 co (zu_s _ _ _) ((zu_n _ (by omega)).trans hs) ) zd_MPainter_pick_50 (zu_s _ _ _) rfl zs_MPainter_346 rfl zq_MPainter_goOver rfl rfl ⟨(Nat.le_of_ble_eq_true rfl), (Nat.le_of_ble_eq_true rfl)⟩ (Nat.le_of_ble_eq_true rfl) ⟨(Nat.le_of_ble_eq_true rfl), (Nat.le_of_ble_eq_true rfl)⟩ ?_
  refine zr_norm (zu (f) 1285 (.inr (13, [.int 0, .int w, .int h, .ref (b + 1283), .ref (b + 1284), .ref (b + 1187), .int x, .int y, .int (x + 1), .int (y + 1), .int 0, .int (-1), .int (-1), .long 0, .ref (b + 1286), .ref (b + (1286 + 1)), .ref (b + (1286 + 2)), .ref (b + (1286 + 3)), .ref (b + (1286 + 4)), .ref (b + (1286 + 5)), .ref (b + (1286 + 6)), .ref (b + (1286 + 7)), .ref (b + (1286 + 8)), .ref (b + (1286 + 9)), .ref (b + (1286 + 10)), .ref (b + (1286 + 11)), .int co, .ref (b + (1286 + 12)), .ref (b + (1286 + 13)), .ref (b + (1286 + 14)), .ref (b + (1286 + 15))]))) _ (zu_zu _ _ _ _) rfl ?_
  exact zr_vret F hr zd_MPainter_pick_53 (Nat.le_of_ble_eq_true rfl) (Nat.le_of_ble_eq_true rfl) ⟨rfl, rfl, rfl⟩
abbrev zb_MD_pick : ByteArray := prog_14_method_27_code
def zy_MD_pick : MethodName := ⟨"OrreryBoxModel", "pick", "(II)I"⟩
theorem zc_MD_pick : Cond.code zy_MD_pick zb_MD_pick 3 (some .int) ∈ gw := gw_t 2173 (by decide +kernel) rfl
theorem zq_MD_pick : zy_MD_pick.cls ≠ "java/lang/invoke/MethodHandle" ∧ zy_MD_pick.cls ≠ "java/lang/invoke/VarHandle" ∧ (parseMethodDescriptor zy_MD_pick.desc).map (fun d => d.parameters.length) = some 2 := by decide +kernel
theorem zd_MD_pick_0 : decode zb_MD_pick 0 = .ok (.aload_n 0, 1) := by decide +kernel
theorem zd_MD_pick_1 : decode zb_MD_pick 1 = .ok (.iconst 0, 1) := by decide +kernel
theorem zd_MD_pick_2 : decode zb_MD_pick 2 = .ok (.putfield 80, 3) := by decide +kernel
theorem zd_MD_pick_5 : decode zb_MD_pick 5 = .ok (.aload_n 0, 1) := by decide +kernel
theorem zd_MD_pick_6 : decode zb_MD_pick 6 = .ok (.iconst (-1), 1) := by decide +kernel
theorem zd_MD_pick_7 : decode zb_MD_pick 7 = .ok (.putfield 58, 3) := by decide +kernel
theorem zd_MD_pick_10 : decode zb_MD_pick 10 = .ok (.aload_n 0, 1) := by decide +kernel
theorem zd_MD_pick_11 : decode zb_MD_pick 11 = .ok (.iload_n 1, 1) := by decide +kernel
theorem zd_MD_pick_12 : decode zb_MD_pick 12 = .ok (.iload_n 2, 1) := by decide +kernel
theorem zd_MD_pick_13 : decode zb_MD_pick 13 = .ok (.invokevirtual 192, 3) := by decide +kernel
theorem zd_MD_pick_16 : decode zb_MD_pick 16 = .ok (.ifCond .ne 5, 3) := by decide +kernel
theorem zd_MD_pick_19 : decode zb_MD_pick 19 = .ok (.iconst (-1), 1) := by decide +kernel
theorem zd_MD_pick_20 : decode zb_MD_pick 20 = .ok (.ireturn, 1) := by decide +kernel
theorem zd_MD_pick_21 : decode zb_MD_pick 21 = .ok (.aload_n 0, 1) := by decide +kernel
theorem zd_MD_pick_22 : decode zb_MD_pick 22 = .ok (.getfield 73, 3) := by decide +kernel
theorem zd_MD_pick_25 : decode zb_MD_pick 25 = .ok (.aload_n 0, 1) := by decide +kernel
theorem zd_MD_pick_26 : decode zb_MD_pick 26 = .ok (.getfield 17, 3) := by decide +kernel
theorem zd_MD_pick_29 : decode zb_MD_pick 29 = .ok (.iload_n 1, 1) := by decide +kernel
theorem zd_MD_pick_30 : decode zb_MD_pick 30 = .ok (.iload_n 2, 1) := by decide +kernel
theorem zd_MD_pick_31 : decode zb_MD_pick 31 = .ok (.invokevirtual 199, 3) := by decide +kernel
theorem zd_MD_pick_34 : decode zb_MD_pick 34 = .ok (.aload_n 0, 1) := by decide +kernel
theorem zd_MD_pick_35 : decode zb_MD_pick 35 = .ok (.aload_n 0, 1) := by decide +kernel
theorem zd_MD_pick_36 : decode zb_MD_pick 36 = .ok (.getfield 73, 3) := by decide +kernel
theorem zd_MD_pick_39 : decode zb_MD_pick 39 = .ok (.getfield 203, 3) := by decide +kernel
theorem zd_MD_pick_42 : decode zb_MD_pick 42 = .ok (.putfield 58, 3) := by decide +kernel
theorem zd_MD_pick_45 : decode zb_MD_pick 45 = .ok (.aload_n 0, 1) := by decide +kernel
theorem zd_MD_pick_46 : decode zb_MD_pick 46 = .ok (.getfield 73, 3) := by decide +kernel
theorem zd_MD_pick_49 : decode zb_MD_pick 49 = .ok (.getfield 206, 3) := by decide +kernel
theorem zd_MD_pick_52 : decode zb_MD_pick 52 = .ok (.ireturn, 1) := by decide +kernel
theorem zw_2162 : (Jvm.Cond.methodLink "OrreryBoxModel" (192 : Nat) ({ cls := "OrreryBoxModel", name := "isPixel", desc := "(II)Z" } : Jvm.MethodName)) ∈ gw := gw_t 2162 (by decide +kernel) rfl
theorem zw_2164 : (Jvm.Cond.instanceMethod ({ cls := "OrreryBoxModel", name := "isPixel", desc := "(II)Z" } : Jvm.MethodName)) ∈ gw := gw_t 2164 (by decide +kernel) rfl
theorem zv_117 : (Jvm.Cond.selects "OrreryBoxModel" (⟨"OrreryBoxModel", "isPixel", "(II)Z"⟩ : MethodName) ⟨"OrreryBoxModel", "isPixel", "(II)Z"⟩) ∈ gw := gw_s 117 (by decide +kernel) rfl
theorem zs_MD_192 : zwV "OrreryBoxModel" 192 "OrreryBoxModel" zy_MD_isPixel zb_MD_isPixel 3 (some .boolean) := ⟨zw_2162, zw_2164, zv_117, zw_13, zc_MD_isPixel⟩
theorem zw_2174 : (Jvm.Cond.methodLink "OrreryBoxModel" (199 : Nat) ({ cls := "OrreryBoxModel$Painter", name := "pick", desc := "(LOrreryBoxModel$Scene;II)V" } : Jvm.MethodName)) ∈ gw := gw_t 2174 (by decide +kernel) rfl
theorem zw_2175 : (Jvm.Cond.instanceMethod ({ cls := "OrreryBoxModel$Painter", name := "pick", desc := "(LOrreryBoxModel$Scene;II)V" } : Jvm.MethodName)) ∈ gw := gw_t 2175 (by decide +kernel) rfl
theorem zw_2176 : (Jvm.Cond.selects "OrreryBoxModel$Painter" ({ cls := "OrreryBoxModel$Painter", name := "pick", desc := "(LOrreryBoxModel$Scene;II)V" } : Jvm.MethodName) ({ cls := "OrreryBoxModel$Painter", name := "pick", desc := "(LOrreryBoxModel$Scene;II)V" } : Jvm.MethodName)) ∈ gw := gw_t 2176 (by decide +kernel) rfl
theorem zs_MD_199 : zwV "OrreryBoxModel" 199 "OrreryBoxModel$Painter" zy_MPainter_pick zb_MPainter_pick 4 none := ⟨zw_2174, zw_2175, zw_2176, zw_17, zc_MPainter_pick⟩
theorem zw_1590 : (Jvm.Cond.fieldLink "OrreryBoxModel" (203 : Nat) "OrreryBoxModel$Painter" "bestFace" "I") ∈ gw := gw_t 1590 (by decide +kernel) rfl
theorem zw_1588 : (Jvm.Cond.fieldLink "OrreryBoxModel" (206 : Nat) "OrreryBoxModel$Painter" "bestNode" "I") ∈ gw := gw_t 1588 (by decide +kernel) rfl
def sw_e_MD_pick (tA : Nat → ClassId) (b : Nat) (f : zV) (x : Int32) (y : Int32) (w : Int32) (h : Int32) : zV := (if (sp_MD_isPixel x y w h 0 0 0 0 0 0 (-1)) = 0 then (zu (f) 1185 (.inr (1, [.int w, .int h, .ref (b + 1186), .int 0, .ref (b + 1187), .ref (b + 1217), .ref (b + 1247), .ref (b + 1277), .ref (b + 1285), .ref (b + 1278), .int 0, .int 0, .int 0, .int 0, .ref (b + 1281), .int 0, .ref (b + 1282), .ref (b + 1283), .ref (b + 1284), .int (-1)]))) else (zu (zu (f) 1185 (.inr (1, [.int w, .int h, .ref (b + 1186), .int 0, .ref (b + 1187), .ref (b + 1217), .ref (b + 1247), .ref (b + 1277), .ref (b + 1285), .ref (b + 1278), .int 0, .int 0, .int 0, .int 0, .ref (b + 1281), .int 0, .ref (b + 1282), .ref (b + 1283), .ref (b + 1284), .int (-1)]))) 1285 (.inr (13, [.int 0, .int w, .int h, .ref (b + 1283), .ref (b + 1284), .ref (b + 1187), .int x, .int y, .int (x + 1), .int (y + 1), .int 0, .int (-1), .int (-1), .long 0, .ref (b + 1286), .ref (b + (1286 + 1)), .ref (b + (1286 + 2)), .ref (b + (1286 + 3)), .ref (b + (1286 + 4)), .ref (b + (1286 + 5)), .ref (b + (1286 + 6)), .ref (b + (1286 + 7)), .ref (b + (1286 + 8)), .ref (b + (1286 + 9)), .ref (b + (1286 + 10)), .ref (b + (1286 + 11)), .int 0, .ref (b + (1286 + 12)), .ref (b + (1286 + 13)), .ref (b + (1286 + 14)), .ref (b + (1286 + 15))]))))
theorem swn_e_MD_pick {tA : Nat → ClassId} {b : Nat} {f : zV} {x : Int32} {y : Int32} {w : Int32} {h : Int32} {ka : Nat} (h0 : ka ≠ 1185) (h1 : ka ≠ 1285) : sw_e_MD_pick tA b f x y w h ka = f ka := by
  unfold sw_e_MD_pick
  repeat' split
  all_goals first | rfl | simp only [zu_n _ h0, zu_n _ h1]
set_option maxHeartbeats 4000000 in
set_option maxRecDepth 100000 in
theorem e_MD_pick (l : Launch) (D : va_G) (tA : Nat → ClassId) (b : Nat) (f : zV) (n : Nat) (x : Int32) (y : Int32) (w : Int32) (h : Int32) (h0 : f 1185 = some (.inr (1, [.int w, .int h, .ref (b + 1186), .int 0, .ref (b + 1187), .ref (b + 1217), .ref (b + 1247), .ref (b + 1277), .ref (b + 1285), .ref (b + 1278), .int 0, .int 0, .int 0, .int 0, .ref (b + 1281), .int 0, .ref (b + 1282), .ref (b + 1283), .ref (b + 1284), .int (-1)]))) (hq : f 1285 = some (.inr (13, [.int 0, .int w, .int h, .ref (b + 1283), .ref (b + 1284), .null, .int 0, .int 0, .int 0, .int 0, .int 0, .int 0, .int 0, .long 0, .ref (b + 1286), .ref (b + (1286 + 1)), .ref (b + (1286 + 2)), .ref (b + (1286 + 3)), .ref (b + (1286 + 4)), .ref (b + (1286 + 5)), .ref (b + (1286 + 6)), .ref (b + (1286 + 7)), .ref (b + (1286 + 8)), .ref (b + (1286 + 9)), .ref (b + (1286 + 10)), .ref (b + (1286 + 11)), .int 0, .ref (b + (1286 + 12)), .ref (b + (1286 + 13)), .ref (b + (1286 + 14)), .ref (b + (1286 + 15))]))) (hs : f 1187 = some (.inr (15, msO b 1188 0 0 0 0 0 32 16384)))  : zM l D tA b zy_MD_pick zb_MD_pick 3 (some .int) 2 46 0 0 [.ref (b + 1185), .int x, .int y] f n (zE (some (.int (-1))) (sw_e_MD_pick tA b f x y w h) n) := by
  refine zM_of (own := "OrreryBoxModel") (plainFor_of_name (by decide)) rfl (Nat.le_of_ble_eq_true rfl) (fun p e s m below meth c F hr hin hH => ?_)
  refine zr_aload_n F zd_MD_pick_0 rfl ?_
  refine zr_iconstv (v := 0) F zd_MD_pick_1 (by decide) ?_
  refine zr_put F 1 11 zd_MD_pick_2 h0 rfl (by decide) zw_1691 rfl rfl rfl rfl (by exact (Nat.le_of_ble_eq_true rfl)) ?_
  refine zr_norm (zu (f) 1185 (.inr (1, [.int w, .int h, .ref (b + 1186), .int 0, .ref (b + 1187), .ref (b + 1217), .ref (b + 1247), .ref (b + 1277), .ref (b + 1285), .ref (b + 1278), .int 0, .int 0, .int 0, .int 0, .ref (b + 1281), .int 0, .ref (b + 1282), .ref (b + 1283), .ref (b + 1284), .int (-1)]))) _ (rfl) rfl ?_
  refine zr_aload_n F zd_MD_pick_5 rfl ?_
  refine zr_iconstv (v := (-1)) F zd_MD_pick_6 (by decide) ?_
  refine zr_put F 1 19 zd_MD_pick_7 (zu_s _ _ _) rfl (by decide) zw_1699 rfl rfl rfl rfl (by exact (Nat.le_of_ble_eq_true rfl)) ?_
  refine zr_norm (zu (f) 1185 (.inr (1, [.int w, .int h, .ref (b + 1186), .int 0, .ref (b + 1187), .ref (b + 1217), .ref (b + 1247), .ref (b + 1277), .ref (b + 1285), .ref (b + 1278), .int 0, .int 0, .int 0, .int 0, .ref (b + 1281), .int 0, .ref (b + 1282), .ref (b + 1283), .ref (b + 1284), .int (-1)]))) _ (zu_zu _ _ _ _) rfl ?_
  refine zr_aload_n F zd_MD_pick_10 rfl ?_
  refine zr_iload_n F zd_MD_pick_11 rfl ?_
  refine zr_iload_n F zd_MD_pick_12 rfl ?_
  refine zr_callV1 F (c_MD_isPixel l D tA b _ _ x y w h 0 0 0 0 0 0 (-1) (zu_s _ _ _) ) zd_MD_pick_13 (zu_s _ _ _) rfl zs_MD_192 rfl zq_MD_isPixel rfl rfl ⟨(Nat.le_of_ble_eq_true rfl), (Nat.le_of_ble_eq_true rfl)⟩ (Nat.le_of_ble_eq_true rfl) ⟨(Nat.le_of_ble_eq_true rfl), (Nat.le_of_ble_eq_true rfl)⟩ ?_
  refine zr_if_ne F 21 zd_MD_pick_16 (by decide) (fun h1 => ?_) (fun h1 => ?_)
  ·
    refine zr_aload_n F zd_MD_pick_21 rfl ?_
    refine zr_get F 1 8 zd_MD_pick_22 (zu_s _ _ _) rfl (by decide) zw_1688 rfl (by rfl) ?_
    refine zr_aload_n F zd_MD_pick_25 rfl ?_
    refine zr_get F 1 4 zd_MD_pick_26 (zu_s _ _ _) rfl (by decide) zw_1684 rfl (by rfl) ?_
    refine zr_iload_n F zd_MD_pick_29 rfl ?_
    refine zr_iload_n F zd_MD_pick_30 rfl ?_
    refine zr_callV0 F (e_MPainter_pick l D tA b _ _ x y (.null) 0 w h 0 0 0 0 0 0 0 0 0 ((zu_n _ (by omega)).trans hq) ((zu_n _ (by omega)).trans hs) ) zd_MD_pick_31 ((zu_n _ (by omega)).trans hq) rfl zs_MD_199 rfl zq_MPainter_pick rfl rfl ⟨(Nat.le_of_ble_eq_true rfl), (Nat.le_of_ble_eq_true rfl)⟩ (Nat.le_of_ble_eq_true rfl) ⟨(Nat.le_of_ble_eq_true rfl), (Nat.le_of_ble_eq_true rfl)⟩ ?_
    refine zr_norm (zu (zu (f) 1185 (.inr (1, [.int w, .int h, .ref (b + 1186), .int 0, .ref (b + 1187), .ref (b + 1217), .ref (b + 1247), .ref (b + 1277), .ref (b + 1285), .ref (b + 1278), .int 0, .int 0, .int 0, .int 0, .ref (b + 1281), .int 0, .ref (b + 1282), .ref (b + 1283), .ref (b + 1284), .int (-1)]))) 1285 (.inr (13, [.int 0, .int w, .int h, .ref (b + 1283), .ref (b + 1284), .ref (b + 1187), .int x, .int y, .int (x + 1), .int (y + 1), .int 0, .int (-1), .int (-1), .long 0, .ref (b + 1286), .ref (b + (1286 + 1)), .ref (b + (1286 + 2)), .ref (b + (1286 + 3)), .ref (b + (1286 + 4)), .ref (b + (1286 + 5)), .ref (b + (1286 + 6)), .ref (b + (1286 + 7)), .ref (b + (1286 + 8)), .ref (b + (1286 + 9)), .ref (b + (1286 + 10)), .ref (b + (1286 + 11)), .int 0, .ref (b + (1286 + 12)), .ref (b + (1286 + 13)), .ref (b + (1286 + 14)), .ref (b + (1286 + 15))]))) _ (rfl) rfl ?_
    refine zr_aload_n F zd_MD_pick_34 rfl ?_
    refine zr_aload_n F zd_MD_pick_35 rfl ?_
    refine zr_get F 1 8 zd_MD_pick_36 ((zu_n _ (by omega)).trans (zu_s _ _ _)) rfl (by decide) zw_1688 rfl (by rfl) ?_
    refine zr_get F 13 12 zd_MD_pick_39 (zu_s _ _ _) rfl (by decide) zw_1590 rfl (by rfl) ?_
    refine zr_put F 1 19 zd_MD_pick_42 ((zu_n _ (by omega)).trans (zu_s _ _ _)) rfl (by decide) zw_1699 rfl rfl rfl rfl (by exact (Nat.le_of_ble_eq_true rfl)) ?_
    refine zr_norm (zu (zu (f) 1185 (.inr (1, [.int w, .int h, .ref (b + 1186), .int 0, .ref (b + 1187), .ref (b + 1217), .ref (b + 1247), .ref (b + 1277), .ref (b + 1285), .ref (b + 1278), .int 0, .int 0, .int 0, .int 0, .ref (b + 1281), .int 0, .ref (b + 1282), .ref (b + 1283), .ref (b + 1284), .int (-1)]))) 1285 (.inr (13, [.int 0, .int w, .int h, .ref (b + 1283), .ref (b + 1284), .ref (b + 1187), .int x, .int y, .int (x + 1), .int (y + 1), .int 0, .int (-1), .int (-1), .long 0, .ref (b + 1286), .ref (b + (1286 + 1)), .ref (b + (1286 + 2)), .ref (b + (1286 + 3)), .ref (b + (1286 + 4)), .ref (b + (1286 + 5)), .ref (b + (1286 + 6)), .ref (b + (1286 + 7)), .ref (b + (1286 + 8)), .ref (b + (1286 + 9)), .ref (b + (1286 + 10)), .ref (b + (1286 + 11)), .int 0, .ref (b + (1286 + 12)), .ref (b + (1286 + 13)), .ref (b + (1286 + 14)), .ref (b + (1286 + 15))]))) _ (zu_mid (by omega) _ _ _) rfl ?_
    refine zr_aload_n F zd_MD_pick_45 rfl ?_
    refine zr_get F 1 8 zd_MD_pick_46 ((zu_n _ (by omega)).trans (zu_s _ _ _)) rfl (by decide) zw_1688 rfl (by rfl) ?_
    refine zr_get F 13 11 zd_MD_pick_49 (zu_s _ _ _) rfl (by decide) zw_1588 rfl (by rfl) ?_
    exact zr_iret F hr zd_MD_pick_52 (Nat.le_of_ble_eq_true rfl) (Nat.le_of_ble_eq_true rfl) ⟨rfl, by rw [sw_e_MD_pick, if_neg h1], rfl⟩
  ·
    refine zr_iconstv (v := (-1)) F zd_MD_pick_19 (by decide) ?_
    exact zr_iret F hr zd_MD_pick_20 (Nat.le_of_ble_eq_true rfl) (Nat.le_of_ble_eq_true rfl) ⟨rfl, by rw [sw_e_MD_pick, if_pos h1], rfl⟩
