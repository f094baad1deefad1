abbrev zb_OB_within : ByteArray := prog_1_method_26_code
def zy_OB_within : MethodName := ⟨"OrreryBox", "within", "(III)Z"⟩
theorem zc_OB_within : Cond.code zy_OB_within zb_OB_within 3 (some .boolean) ∈ gw := gw_t 547 (by decide +kernel) rfl
theorem zq_OB_within : zy_OB_within.cls ≠ "java/lang/invoke/MethodHandle" ∧ zy_OB_within.cls ≠ "java/lang/invoke/VarHandle" ∧ (parseMethodDescriptor zy_OB_within.desc).map (fun d => d.parameters.length) = some 3 := by decide +kernel
theorem zd_OB_within_0 : decode zb_OB_within 0 = .ok (.iload_n 0, 1) := by decide +kernel
theorem zd_OB_within_1 : decode zb_OB_within 1 = .ok (.iload_n 1, 1) := by decide +kernel
theorem zd_OB_within_2 : decode zb_OB_within 2 = .ok (.if_icmp .lt 12, 3) := by decide +kernel
theorem zd_OB_within_5 : decode zb_OB_within 5 = .ok (.iload_n 0, 1) := by decide +kernel
theorem zd_OB_within_6 : decode zb_OB_within 6 = .ok (.iload_n 2, 1) := by decide +kernel
theorem zd_OB_within_7 : decode zb_OB_within 7 = .ok (.if_icmp .gt 7, 3) := by decide +kernel
theorem zd_OB_within_10 : decode zb_OB_within 10 = .ok (.iconst 1, 1) := by decide +kernel
theorem zd_OB_within_11 : decode zb_OB_within 11 = .ok (.goto 4, 3) := by decide +kernel
theorem zd_OB_within_14 : decode zb_OB_within 14 = .ok (.iconst 0, 1) := by decide +kernel
theorem zd_OB_within_15 : decode zb_OB_within 15 = .ok (.ireturn, 1) := by decide +kernel
def sp_OB_within (v : Int32) (lo : Int32) (hi : Int32) : Int32 := (if v < lo then 0 else (if hi < v then 0 else 1))
set_option maxHeartbeats 4000000 in
set_option maxRecDepth 100000 in
theorem c_OB_within (l : Launch) (D : va_G) (tA : Nat → ClassId) (b : Nat) (f : zV) (n : Nat) (v : Int32) (lo : Int32) (hi : Int32)   : zM l D tA b zy_OB_within zb_OB_within 3 (some .boolean) 0 0 0 0 [.int v, .int lo, .int hi] f n (zE (some (.int (sp_OB_within v lo hi))) f n) := by
  refine zM_of (own := "OrreryBox") (plainFor_of_name (by decide)) rfl (Nat.le_of_ble_eq_true rfl) (fun p e s m below meth c F hr hin hH => ?_)
  refine zr_iload_n F zd_OB_within_0 rfl ?_
  refine zr_iload_n F zd_OB_within_1 rfl ?_
  refine zr_icmp_lt F 14 zd_OB_within_2 (by decide) (fun h1 => ?_) (fun h1 => ?_)
  ·
    refine zr_iconstv (v := 0) F zd_OB_within_14 (by decide) ?_
    exact zr_zret F hr rfl zd_OB_within_15 (Nat.le_of_ble_eq_true rfl) (Nat.le_of_ble_eq_true rfl) ⟨by rw [sp_OB_within, if_pos h1], rfl, rfl⟩
  ·
    refine zr_iload_n F zd_OB_within_5 rfl ?_
    refine zr_iload_n F zd_OB_within_6 rfl ?_
    refine zr_icmp_gt F 14 zd_OB_within_7 (by decide) (fun h2 => ?_) (fun h2 => ?_)
    ·
      refine zr_iconstv (v := 0) F zd_OB_within_14 (by decide) ?_
      exact zr_zret F hr rfl zd_OB_within_15 (Nat.le_of_ble_eq_true rfl) (Nat.le_of_ble_eq_true rfl) ⟨by rw [sp_OB_within, if_neg h1, if_pos h2], rfl, rfl⟩
    ·
      refine zr_iconstv (v := 1) F zd_OB_within_10 (by decide) ?_
      refine zr_goto F 15 zd_OB_within_11 (by decide) ?_
      exact zr_zret F hr rfl zd_OB_within_15 (Nat.le_of_ble_eq_true rfl) (Nat.le_of_ble_eq_true rfl) ⟨by rw [sp_OB_within, if_neg h1, if_neg h2], rfl, rfl⟩
abbrev zb_OB_allWithin : ByteArray := prog_1_method_27_code
def zy_OB_allWithin : MethodName := ⟨"OrreryBox", "allWithin", "(IIII)Z"⟩
theorem zc_OB_allWithin : Cond.code zy_OB_allWithin zb_OB_allWithin 4 (some .boolean) ∈ gw := gw_t 597 (by decide +kernel) rfl
theorem zq_OB_allWithin : zy_OB_allWithin.cls ≠ "java/lang/invoke/MethodHandle" ∧ zy_OB_allWithin.cls ≠ "java/lang/invoke/VarHandle" ∧ (parseMethodDescriptor zy_OB_allWithin.desc).map (fun d => d.parameters.length) = some 4 := by decide +kernel
theorem zd_OB_allWithin_0 : decode zb_OB_allWithin 0 = .ok (.iload_n 0, 1) := by decide +kernel
theorem zd_OB_allWithin_1 : decode zb_OB_allWithin 1 = .ok (.iload_n 3, 1) := by decide +kernel
theorem zd_OB_allWithin_2 : decode zb_OB_allWithin 2 = .ok (.ineg, 1) := by decide +kernel
theorem zd_OB_allWithin_3 : decode zb_OB_allWithin 3 = .ok (.iload_n 3, 1) := by decide +kernel
theorem zd_OB_allWithin_4 : decode zb_OB_allWithin 4 = .ok (.invokestatic 97, 3) := by decide +kernel
theorem zd_OB_allWithin_7 : decode zb_OB_allWithin 7 = .ok (.ifCond .eq 27, 3) := by decide +kernel
theorem zd_OB_allWithin_10 : decode zb_OB_allWithin 10 = .ok (.iload_n 1, 1) := by decide +kernel
theorem zd_OB_allWithin_11 : decode zb_OB_allWithin 11 = .ok (.iload_n 3, 1) := by decide +kernel
theorem zd_OB_allWithin_12 : decode zb_OB_allWithin 12 = .ok (.ineg, 1) := by decide +kernel
theorem zd_OB_allWithin_13 : decode zb_OB_allWithin 13 = .ok (.iload_n 3, 1) := by decide +kernel
theorem zd_OB_allWithin_14 : decode zb_OB_allWithin 14 = .ok (.invokestatic 97, 3) := by decide +kernel
theorem zd_OB_allWithin_17 : decode zb_OB_allWithin 17 = .ok (.ifCond .eq 17, 3) := by decide +kernel
theorem zd_OB_allWithin_20 : decode zb_OB_allWithin 20 = .ok (.iload_n 2, 1) := by decide +kernel
theorem zd_OB_allWithin_21 : decode zb_OB_allWithin 21 = .ok (.iload_n 3, 1) := by decide +kernel
theorem zd_OB_allWithin_22 : decode zb_OB_allWithin 22 = .ok (.ineg, 1) := by decide +kernel
theorem zd_OB_allWithin_23 : decode zb_OB_allWithin 23 = .ok (.iload_n 3, 1) := by decide +kernel
theorem zd_OB_allWithin_24 : decode zb_OB_allWithin 24 = .ok (.invokestatic 97, 3) := by decide +kernel
theorem zd_OB_allWithin_27 : decode zb_OB_allWithin 27 = .ok (.ifCond .eq 7, 3) := by decide +kernel
theorem zd_OB_allWithin_30 : decode zb_OB_allWithin 30 = .ok (.iconst 1, 1) := by decide +kernel
theorem zd_OB_allWithin_31 : decode zb_OB_allWithin 31 = .ok (.goto 4, 3) := by decide +kernel
theorem zd_OB_allWithin_34 : decode zb_OB_allWithin 34 = .ok (.iconst 0, 1) := by decide +kernel
theorem zd_OB_allWithin_35 : decode zb_OB_allWithin 35 = .ok (.ireturn, 1) := by decide +kernel
theorem zw_545 : (Jvm.Cond.methodLink "OrreryBox" (97 : Nat) ({ cls := "OrreryBox", name := "within", desc := "(III)Z" } : Jvm.MethodName)) ∈ gw := gw_t 545 (by decide +kernel) rfl
theorem zw_546 : (Jvm.Cond.static ({ cls := "OrreryBox", name := "within", desc := "(III)Z" } : Jvm.MethodName)) ∈ gw := gw_t 546 (by decide +kernel) rfl
theorem zs_OB_97 : zwS "OrreryBox" 97 zy_OB_within zb_OB_within 3 (some .boolean) := ⟨zw_545, zw_546, zw_1, zc_OB_within⟩
def sp_OB_allWithin (x : Int32) (y : Int32) (z : Int32) (r : Int32) : Int32 := (if (sp_OB_within (x) ((-r)) (r)) = 0 then 0 else (if (sp_OB_within (y) ((-r)) (r)) = 0 then 0 else (if (sp_OB_within (z) ((-r)) (r)) = 0 then 0 else 1)))
set_option maxHeartbeats 4000000 in
set_option maxRecDepth 100000 in
theorem c_OB_allWithin (l : Launch) (D : va_G) (tA : Nat → ClassId) (b : Nat) (f : zV) (n : Nat) (x : Int32) (y : Int32) (z : Int32) (r : Int32)   : zM l D tA b zy_OB_allWithin zb_OB_allWithin 4 (some .boolean) 1 22 0 0 [.int x, .int y, .int z, .int r] f n (zE (some (.int (sp_OB_allWithin x y z r))) f n) := by
  refine zM_of (own := "OrreryBox") (plainFor_of_name (by decide)) rfl (Nat.le_of_ble_eq_true rfl) (fun p e s m below meth c F hr hin hH => ?_)
  refine zr_iload_n F zd_OB_allWithin_0 rfl ?_
  refine zr_iload_n F zd_OB_allWithin_1 rfl ?_
  refine zr_ineg F zd_OB_allWithin_2 ?_
  refine zr_iload_n F zd_OB_allWithin_3 rfl ?_
  refine zr_callS1 F (c_OB_within l D tA b _ _ (x) ((-r)) (r)) zd_OB_allWithin_4 zs_OB_97 zq_OB_within rfl rfl ⟨(Nat.le_of_ble_eq_true rfl), (Nat.le_of_ble_eq_true rfl)⟩ (Nat.le_of_ble_eq_true rfl) ⟨(Nat.le_of_ble_eq_true rfl), (Nat.le_of_ble_eq_true rfl)⟩ ?_
  refine zr_if_eq F 34 zd_OB_allWithin_7 (by decide) (fun h1 => ?_) (fun h1 => ?_)
  ·
    refine zr_iconstv (v := 0) F zd_OB_allWithin_34 (by decide) ?_
    exact zr_zret F hr rfl zd_OB_allWithin_35 (Nat.le_of_ble_eq_true rfl) (Nat.le_of_ble_eq_true rfl) ⟨by rw [sp_OB_allWithin, if_pos h1], rfl, rfl⟩
  ·
    refine zr_iload_n F zd_OB_allWithin_10 rfl ?_
    refine zr_iload_n F zd_OB_allWithin_11 rfl ?_
    refine zr_ineg F zd_OB_allWithin_12 ?_
    refine zr_iload_n F zd_OB_allWithin_13 rfl ?_
    refine zr_callS1 F (c_OB_within l D tA b _ _ (y) ((-r)) (r)) zd_OB_allWithin_14 zs_OB_97 zq_OB_within rfl rfl ⟨(Nat.le_of_ble_eq_true rfl), (Nat.le_of_ble_eq_true rfl)⟩ (Nat.le_of_ble_eq_true rfl) ⟨(Nat.le_of_ble_eq_true rfl), (Nat.le_of_ble_eq_true rfl)⟩ ?_
    refine zr_if_eq F 34 zd_OB_allWithin_17 (by decide) (fun h2 => ?_) (fun h2 => ?_)
    ·
      refine zr_iconstv (v := 0) F zd_OB_allWithin_34 (by decide) ?_
      exact zr_zret F hr rfl zd_OB_allWithin_35 (Nat.le_of_ble_eq_true rfl) (Nat.le_of_ble_eq_true rfl) ⟨by rw [sp_OB_allWithin, if_neg h1, if_pos h2], rfl, rfl⟩
    ·
      refine zr_iload_n F zd_OB_allWithin_20 rfl ?_
      refine zr_iload_n F zd_OB_allWithin_21 rfl ?_
      refine zr_ineg F zd_OB_allWithin_22 ?_
      refine zr_iload_n F zd_OB_allWithin_23 rfl ?_
      refine zr_callS1 F (c_OB_within l D tA b _ _ (z) ((-r)) (r)) zd_OB_allWithin_24 zs_OB_97 zq_OB_within rfl rfl ⟨(Nat.le_of_ble_eq_true rfl), (Nat.le_of_ble_eq_true rfl)⟩ (Nat.le_of_ble_eq_true rfl) ⟨(Nat.le_of_ble_eq_true rfl), (Nat.le_of_ble_eq_true rfl)⟩ ?_
      refine zr_if_eq F 34 zd_OB_allWithin_27 (by decide) (fun h3 => ?_) (fun h3 => ?_)
      ·
        refine zr_iconstv (v := 0) F zd_OB_allWithin_34 (by decide) ?_
        exact zr_zret F hr rfl zd_OB_allWithin_35 (Nat.le_of_ble_eq_true rfl) (Nat.le_of_ble_eq_true rfl) ⟨by rw [sp_OB_allWithin, if_neg h1, if_neg h2, if_pos h3], rfl, rfl⟩
      ·
        refine zr_iconstv (v := 1) F zd_OB_allWithin_30 (by decide) ?_
        refine zr_goto F 35 zd_OB_allWithin_31 (by decide) ?_
        exact zr_zret F hr rfl zd_OB_allWithin_35 (Nat.le_of_ble_eq_true rfl) (Nat.le_of_ble_eq_true rfl) ⟨by rw [sp_OB_allWithin, if_neg h1, if_neg h2, if_neg h3], rfl, rfl⟩
abbrev zb_OB_reachOf : ByteArray := prog_1_method_29_code
def zy_OB_reachOf : MethodName := ⟨"OrreryBox", "reachOf", "(I)I"⟩
theorem zc_OB_reachOf : Cond.code zy_OB_reachOf zb_OB_reachOf 1 (some .int) ∈ gw := gw_t 592 (by decide +kernel) rfl
theorem zq_OB_reachOf : zy_OB_reachOf.cls ≠ "java/lang/invoke/MethodHandle" ∧ zy_OB_reachOf.cls ≠ "java/lang/invoke/VarHandle" ∧ (parseMethodDescriptor zy_OB_reachOf.desc).map (fun d => d.parameters.length) = some 1 := by decide +kernel
theorem zd_OB_reachOf_0 : decode zb_OB_reachOf 0 = .ok (.iload_n 0, 1) := by decide +kernel
theorem zd_OB_reachOf_1 : decode zb_OB_reachOf 1 = .ok (.ifCond .ne 8, 3) := by decide +kernel
theorem zd_OB_reachOf_4 : decode zb_OB_reachOf 4 = .ok (.ldc 242, 2) := by decide +kernel
theorem zd_OB_reachOf_6 : decode zb_OB_reachOf 6 = .ok (.goto 5, 3) := by decide +kernel
theorem zd_OB_reachOf_9 : decode zb_OB_reachOf 9 = .ok (.ldc 243, 2) := by decide +kernel
theorem zd_OB_reachOf_11 : decode zb_OB_reachOf 11 = .ok (.ireturn, 1) := by decide +kernel
theorem zw_594 : (Jvm.Cond.constant "OrreryBox" (243 : Nat) (1048576 : Int32)) ∈ gw := gw_t 594 (by decide +kernel) rfl
theorem zw_593 : (Jvm.Cond.constant "OrreryBox" (242 : Nat) (4194304 : Int32)) ∈ gw := gw_t 593 (by decide +kernel) rfl
def sp_OB_reachOf (w : Int32) : Int32 := (if w = 0 then 4194304 else 1048576)
set_option maxHeartbeats 4000000 in
set_option maxRecDepth 100000 in
theorem c_OB_reachOf (l : Launch) (D : va_G) (tA : Nat → ClassId) (b : Nat) (f : zV) (n : Nat) (w : Int32)   : zM l D tA b zy_OB_reachOf zb_OB_reachOf 1 (some .int) 0 0 0 0 [.int w] f n (zE (some (.int (sp_OB_reachOf w))) f n) := by
  refine zM_of (own := "OrreryBox") (plainFor_of_name (by decide)) rfl (Nat.le_of_ble_eq_true rfl) (fun p e s m below meth c F hr hin hH => ?_)
  refine zr_iload_n F zd_OB_reachOf_0 rfl ?_
  refine zr_if_ne F 9 zd_OB_reachOf_1 (by decide) (fun h1 => ?_) (fun h1 => ?_)
  ·
    refine zr_ldc F zd_OB_reachOf_9 zw_594 ?_
    exact zr_iret F hr zd_OB_reachOf_11 (Nat.le_of_ble_eq_true rfl) (Nat.le_of_ble_eq_true rfl) ⟨by rw [sp_OB_reachOf, if_neg h1], rfl, rfl⟩
  ·
    refine zr_ldc F zd_OB_reachOf_4 zw_593 ?_
    refine zr_goto F 11 zd_OB_reachOf_6 (by decide) ?_
    exact zr_iret F hr zd_OB_reachOf_11 (Nat.le_of_ble_eq_true rfl) (Nat.le_of_ble_eq_true rfl) ⟨by rw [sp_OB_reachOf, if_pos h1], rfl, rfl⟩
abbrev zb_MD_within : ByteArray := prog_14_method_10_code
def zy_MD_within : MethodName := ⟨"OrreryBoxModel", "within", "(IIII)Z"⟩
theorem zc_MD_within : Cond.code zy_MD_within zb_MD_within 4 (some .boolean) ∈ gw := gw_t 1964 (by decide +kernel) rfl
theorem zq_MD_within : zy_MD_within.cls ≠ "java/lang/invoke/MethodHandle" ∧ zy_MD_within.cls ≠ "java/lang/invoke/VarHandle" ∧ (parseMethodDescriptor zy_MD_within.desc).map (fun d => d.parameters.length) = some 4 := by decide +kernel
theorem zd_MD_within_0 : decode zb_MD_within 0 = .ok (.iload_n 0, 1) := by decide +kernel
theorem zd_MD_within_1 : decode zb_MD_within 1 = .ok (.iload_n 3, 1) := by decide +kernel
theorem zd_MD_within_2 : decode zb_MD_within 2 = .ok (.ineg, 1) := by decide +kernel
theorem zd_MD_within_3 : decode zb_MD_within 3 = .ok (.if_icmp .lt 34, 3) := by decide +kernel
theorem zd_MD_within_6 : decode zb_MD_within 6 = .ok (.iload_n 0, 1) := by decide +kernel
theorem zd_MD_within_7 : decode zb_MD_within 7 = .ok (.iload_n 3, 1) := by decide +kernel
theorem zd_MD_within_8 : decode zb_MD_within 8 = .ok (.if_icmp .gt 29, 3) := by decide +kernel
theorem zd_MD_within_11 : decode zb_MD_within 11 = .ok (.iload_n 1, 1) := by decide +kernel
theorem zd_MD_within_12 : decode zb_MD_within 12 = .ok (.iload_n 3, 1) := by decide +kernel
theorem zd_MD_within_13 : decode zb_MD_within 13 = .ok (.ineg, 1) := by decide +kernel
theorem zd_MD_within_14 : decode zb_MD_within 14 = .ok (.if_icmp .lt 23, 3) := by decide +kernel
theorem zd_MD_within_17 : decode zb_MD_within 17 = .ok (.iload_n 1, 1) := by decide +kernel
theorem zd_MD_within_18 : decode zb_MD_within 18 = .ok (.iload_n 3, 1) := by decide +kernel
theorem zd_MD_within_19 : decode zb_MD_within 19 = .ok (.if_icmp .gt 18, 3) := by decide +kernel
theorem zd_MD_within_22 : decode zb_MD_within 22 = .ok (.iload_n 2, 1) := by decide +kernel
theorem zd_MD_within_23 : decode zb_MD_within 23 = .ok (.iload_n 3, 1) := by decide +kernel
theorem zd_MD_within_24 : decode zb_MD_within 24 = .ok (.ineg, 1) := by decide +kernel
theorem zd_MD_within_25 : decode zb_MD_within 25 = .ok (.if_icmp .lt 12, 3) := by decide +kernel
theorem zd_MD_within_28 : decode zb_MD_within 28 = .ok (.iload_n 2, 1) := by decide +kernel
theorem zd_MD_within_29 : decode zb_MD_within 29 = .ok (.iload_n 3, 1) := by decide +kernel
theorem zd_MD_within_30 : decode zb_MD_within 30 = .ok (.if_icmp .gt 7, 3) := by decide +kernel
theorem zd_MD_within_33 : decode zb_MD_within 33 = .ok (.iconst 1, 1) := by decide +kernel
theorem zd_MD_within_34 : decode zb_MD_within 34 = .ok (.goto 4, 3) := by decide +kernel
theorem zd_MD_within_37 : decode zb_MD_within 37 = .ok (.iconst 0, 1) := by decide +kernel
theorem zd_MD_within_38 : decode zb_MD_within 38 = .ok (.ireturn, 1) := by decide +kernel
def sp_MD_within (x : Int32) (y : Int32) (z : Int32) (r : Int32) : Int32 := (if x < (-r) then 0 else (if r < x then 0 else (if y < (-r) then 0 else (if r < y then 0 else (if z < (-r) then 0 else (if r < z then 0 else 1))))))
set_option maxHeartbeats 4000000 in
set_option maxRecDepth 100000 in
theorem c_MD_within (l : Launch) (D : va_G) (tA : Nat → ClassId) (b : Nat) (f : zV) (n : Nat) (x : Int32) (y : Int32) (z : Int32) (r : Int32)   : zM l D tA b zy_MD_within zb_MD_within 4 (some .boolean) 0 0 0 0 [.int x, .int y, .int z, .int r] f n (zE (some (.int (sp_MD_within x y z r))) f n) := by
  refine zM_of (own := "OrreryBoxModel") (plainFor_of_name (by decide)) rfl (Nat.le_of_ble_eq_true rfl) (fun p e s m below meth c F hr hin hH => ?_)
  refine zr_iload_n F zd_MD_within_0 rfl ?_
  refine zr_iload_n F zd_MD_within_1 rfl ?_
  refine zr_ineg F zd_MD_within_2 ?_
  refine zr_icmp_lt F 37 zd_MD_within_3 (by decide) (fun h1 => ?_) (fun h1 => ?_)
  ·
    refine zr_iconstv (v := 0) F zd_MD_within_37 (by decide) ?_
    exact zr_zret F hr rfl zd_MD_within_38 (Nat.le_of_ble_eq_true rfl) (Nat.le_of_ble_eq_true rfl) ⟨by rw [sp_MD_within, if_pos h1], rfl, rfl⟩
  ·
    refine zr_iload_n F zd_MD_within_6 rfl ?_
    refine zr_iload_n F zd_MD_within_7 rfl ?_
    refine zr_icmp_gt F 37 zd_MD_within_8 (by decide) (fun h2 => ?_) (fun h2 => ?_)
    ·
      refine zr_iconstv (v := 0) F zd_MD_within_37 (by decide) ?_
      exact zr_zret F hr rfl zd_MD_within_38 (Nat.le_of_ble_eq_true rfl) (Nat.le_of_ble_eq_true rfl) ⟨by rw [sp_MD_within, if_neg h1, if_pos h2], rfl, rfl⟩
    ·
      refine zr_iload_n F zd_MD_within_11 rfl ?_
      refine zr_iload_n F zd_MD_within_12 rfl ?_
      refine zr_ineg F zd_MD_within_13 ?_
      refine zr_icmp_lt F 37 zd_MD_within_14 (by decide) (fun h3 => ?_) (fun h3 => ?_)
      ·
        refine zr_iconstv (v := 0) F zd_MD_within_37 (by decide) ?_
        exact zr_zret F hr rfl zd_MD_within_38 (Nat.le_of_ble_eq_true rfl) (Nat.le_of_ble_eq_true rfl) ⟨by rw [sp_MD_within, if_neg h1, if_neg h2, if_pos h3], rfl, rfl⟩
      ·
        refine zr_iload_n F zd_MD_within_17 rfl ?_
        refine zr_iload_n F zd_MD_within_18 rfl ?_
        refine zr_icmp_gt F 37 zd_MD_within_19 (by decide) (fun h4 => ?_) (fun h4 => ?_)
        ·
          refine zr_iconstv (v := 0) F zd_MD_within_37 (by decide) ?_
          exact zr_zret F hr rfl zd_MD_within_38 (Nat.le_of_ble_eq_true rfl) (Nat.le_of_ble_eq_true rfl) ⟨by rw [sp_MD_within, if_neg h1, if_neg h2, if_neg h3, if_pos h4], rfl, rfl⟩
        ·
          refine zr_iload_n F zd_MD_within_22 rfl ?_
          refine zr_iload_n F zd_MD_within_23 rfl ?_
          refine zr_ineg F zd_MD_within_24 ?_
          refine zr_icmp_lt F 37 zd_MD_within_25 (by decide) (fun h5 => ?_) (fun h5 => ?_)
          ·
            refine zr_iconstv (v := 0) F zd_MD_within_37 (by decide) ?_
            exact zr_zret F hr rfl zd_MD_within_38 (Nat.le_of_ble_eq_true rfl) (Nat.le_of_ble_eq_true rfl) ⟨by rw [sp_MD_within, if_neg h1, if_neg h2, if_neg h3, if_neg h4, if_pos h5], rfl, rfl⟩
          ·
            refine zr_iload_n F zd_MD_within_28 rfl ?_
            refine zr_iload_n F zd_MD_within_29 rfl ?_
            refine zr_icmp_gt F 37 zd_MD_within_30 (by decide) (fun h6 => ?_) (fun h6 => ?_)
            ·
              refine zr_iconstv (v := 0) F zd_MD_within_37 (by decide) ?_
              exact zr_zret F hr rfl zd_MD_within_38 (Nat.le_of_ble_eq_true rfl) (Nat.le_of_ble_eq_true rfl) ⟨by rw [sp_MD_within, if_neg h1, if_neg h2, if_neg h3, if_neg h4, if_neg h5, if_pos h6], rfl, rfl⟩
            ·
              refine zr_iconstv (v := 1) F zd_MD_within_33 (by decide) ?_
              refine zr_goto F 38 zd_MD_within_34 (by decide) ?_
              exact zr_zret F hr rfl zd_MD_within_38 (Nat.le_of_ble_eq_true rfl) (Nat.le_of_ble_eq_true rfl) ⟨by rw [sp_MD_within, if_neg h1, if_neg h2, if_neg h3, if_neg h4, if_neg h5, if_neg h6], rfl, rfl⟩
abbrev zb_MD_isByte : ByteArray := prog_14_method_16_code
def zy_MD_isByte : MethodName := ⟨"OrreryBoxModel", "isByte", "(I)Z"⟩
theorem zc_MD_isByte : Cond.code zy_MD_isByte zb_MD_isByte 1 (some .boolean) ∈ gw := gw_t 1988 (by decide +kernel) rfl
theorem zq_MD_isByte : zy_MD_isByte.cls ≠ "java/lang/invoke/MethodHandle" ∧ zy_MD_isByte.cls ≠ "java/lang/invoke/VarHandle" ∧ (parseMethodDescriptor zy_MD_isByte.desc).map (fun d => d.parameters.length) = some 1 := by decide +kernel
theorem zd_MD_isByte_0 : decode zb_MD_isByte 0 = .ok (.iload_n 0, 1) := by decide +kernel
theorem zd_MD_isByte_1 : decode zb_MD_isByte 1 = .ok (.ifCond .lt 14, 3) := by decide +kernel
theorem zd_MD_isByte_4 : decode zb_MD_isByte 4 = .ok (.iload_n 0, 1) := by decide +kernel
theorem zd_MD_isByte_5 : decode zb_MD_isByte 5 = .ok (.sipush 255, 3) := by decide +kernel
theorem zd_MD_isByte_8 : decode zb_MD_isByte 8 = .ok (.if_icmp .gt 7, 3) := by decide +kernel
theorem zd_MD_isByte_11 : decode zb_MD_isByte 11 = .ok (.iconst 1, 1) := by decide +kernel
theorem zd_MD_isByte_12 : decode zb_MD_isByte 12 = .ok (.goto 4, 3) := by decide +kernel
theorem zd_MD_isByte_15 : decode zb_MD_isByte 15 = .ok (.iconst 0, 1) := by decide +kernel
theorem zd_MD_isByte_16 : decode zb_MD_isByte 16 = .ok (.ireturn, 1) := by decide +kernel
def sp_MD_isByte (x : Int32) : Int32 := (if x < 0 then 0 else (if 255 < x then 0 else 1))
set_option maxHeartbeats 4000000 in
set_option maxRecDepth 100000 in
theorem c_MD_isByte (l : Launch) (D : va_G) (tA : Nat → ClassId) (b : Nat) (f : zV) (n : Nat) (x : Int32)   : zM l D tA b zy_MD_isByte zb_MD_isByte 1 (some .boolean) 0 0 0 0 [.int x] f n (zE (some (.int (sp_MD_isByte x))) f n) := by
  refine zM_of (own := "OrreryBoxModel") (plainFor_of_name (by decide)) rfl (Nat.le_of_ble_eq_true rfl) (fun p e s m below meth c F hr hin hH => ?_)
  refine zr_iload_n F zd_MD_isByte_0 rfl ?_
  refine zr_if_lt F 15 zd_MD_isByte_1 (by decide) (fun h1 => ?_) (fun h1 => ?_)
  ·
    refine zr_iconstv (v := 0) F zd_MD_isByte_15 (by decide) ?_
    exact zr_zret F hr rfl zd_MD_isByte_16 (Nat.le_of_ble_eq_true rfl) (Nat.le_of_ble_eq_true rfl) ⟨by rw [sp_MD_isByte, if_pos h1], rfl, rfl⟩
  ·
    refine zr_iload_n F zd_MD_isByte_4 rfl ?_
    refine zr_sipushv (v := 255) F zd_MD_isByte_5 (by decide) ?_
    refine zr_icmp_gt F 15 zd_MD_isByte_8 (by decide) (fun h2 => ?_) (fun h2 => ?_)
    ·
      refine zr_iconstv (v := 0) F zd_MD_isByte_15 (by decide) ?_
      exact zr_zret F hr rfl zd_MD_isByte_16 (Nat.le_of_ble_eq_true rfl) (Nat.le_of_ble_eq_true rfl) ⟨by rw [sp_MD_isByte, if_neg h1, if_pos h2], rfl, rfl⟩
    ·
      refine zr_iconstv (v := 1) F zd_MD_isByte_11 (by decide) ?_
      refine zr_goto F 16 zd_MD_isByte_12 (by decide) ?_
      exact zr_zret F hr rfl zd_MD_isByte_16 (Nat.le_of_ble_eq_true rfl) (Nat.le_of_ble_eq_true rfl) ⟨by rw [sp_MD_isByte, if_neg h1, if_neg h2], rfl, rfl⟩
abbrev zb_OB_end : ByteArray := prog_1_method_3_code
def zy_OB_end : MethodName := ⟨"OrreryBox", "end", "(I)Z"⟩
theorem zc_OB_end : Cond.code zy_OB_end zb_OB_end 2 (some .boolean) ∈ gw := gw_t 536 (by decide +kernel) rfl
theorem zq_OB_end : zy_OB_end.cls ≠ "java/lang/invoke/MethodHandle" ∧ zy_OB_end.cls ≠ "java/lang/invoke/VarHandle" ∧ (parseMethodDescriptor zy_OB_end.desc).map (fun d => d.parameters.length) = some 1 := by decide +kernel
theorem zd_OB_end_0 : decode zb_OB_end 0 = .ok (.iload_n 1, 1) := by decide +kernel
theorem zd_OB_end_1 : decode zb_OB_end 1 = .ok (.ifCond .lt 11, 3) := by decide +kernel
theorem zd_OB_end_4 : decode zb_OB_end 4 = .ok (.iload_n 1, 1) := by decide +kernel
theorem zd_OB_end_5 : decode zb_OB_end 5 = .ok (.aload_n 0, 1) := by decide +kernel
theorem zd_OB_end_6 : decode zb_OB_end 6 = .ok (.getfield 69, 3) := by decide +kernel
theorem zd_OB_end_9 : decode zb_OB_end 9 = .ok (.if_icmp .le 5, 3) := by decide +kernel
theorem zd_OB_end_12 : decode zb_OB_end 12 = .ok (.iconst 0, 1) := by decide +kernel
theorem zd_OB_end_13 : decode zb_OB_end 13 = .ok (.ireturn, 1) := by decide +kernel
theorem zd_OB_end_14 : decode zb_OB_end 14 = .ok (.aload_n 0, 1) := by decide +kernel
theorem zd_OB_end_15 : decode zb_OB_end 15 = .ok (.iload_n 1, 1) := by decide +kernel
theorem zd_OB_end_16 : decode zb_OB_end 16 = .ok (.putfield 69, 3) := by decide +kernel
theorem zd_OB_end_19 : decode zb_OB_end 19 = .ok (.iconst 1, 1) := by decide +kernel
theorem zd_OB_end_20 : decode zb_OB_end 20 = .ok (.ireturn, 1) := by decide +kernel
theorem zw_491 : (Jvm.Cond.fieldLink "OrreryBox" (69 : Nat) "OrreryBox" "taped" "I") ∈ gw := gw_t 491 (by decide +kernel) rfl
def sp_OB_end (k : Int32) (w : Int32) (h : Int32) (tp : Int32) (sc : Nat) (gr : Int32) (pk : Int32) : Int32 := (if k < 0 then 0 else (if k ≤ tp then 1 else 0))
def sw_OB_end (tA : Nat → ClassId) (b : Nat) (f : zV) (k : Int32) (w : Int32) (h : Int32) (tp : Int32) (sc : Nat) (gr : Int32) (pk : Int32) : zV := (if k < 0 then (f) else (if k ≤ tp then (zu (f) 0 (.inr (0, [.int w, .int h, .ref (b + 1), .int k, .ref (b + 2), .ref (b + sc), .ref (b + 3), .ref (b + 1121), .ref (b + 1178), .ref (b + 5), .int gr, .int pk]))) else (f)))
set_option maxHeartbeats 4000000 in
set_option maxRecDepth 100000 in
theorem c_OB_end (l : Launch) (D : va_G) (tA : Nat → ClassId) (b : Nat) (f : zV) (n : Nat) (k : Int32) (w : Int32) (h : Int32) (tp : Int32) (sc : Nat) (gr : Int32) (pk : Int32) (hf : f 0 = some (.inr (0, [.int w, .int h, .ref (b + 1), .int tp, .ref (b + 2), .ref (b + sc), .ref (b + 3), .ref (b + 1121), .ref (b + 1178), .ref (b + 5), .int gr, .int pk])))  : zM l D tA b zy_OB_end zb_OB_end 2 (some .boolean) 0 0 0 0 [.ref (b + 0), .int k] f n (zE (some (.int (sp_OB_end k w h tp sc gr pk))) (sw_OB_end tA b f k w h tp sc gr pk) n) := by
  refine zM_of (own := "OrreryBox") (plainFor_of_name (by decide)) rfl (Nat.le_of_ble_eq_true rfl) (fun p e s m below meth c F hr hin hH => ?_)
  refine zr_iload_n F zd_OB_end_0 rfl ?_
  refine zr_if_lt F 12 zd_OB_end_1 (by decide) (fun h1 => ?_) (fun h1 => ?_)
  ·
    refine zr_iconstv (v := 0) F zd_OB_end_12 (by decide) ?_
    exact zr_zret F hr rfl zd_OB_end_13 (Nat.le_of_ble_eq_true rfl) (Nat.le_of_ble_eq_true rfl) ⟨by rw [sp_OB_end, if_pos h1], by rw [sw_OB_end, if_pos h1], rfl⟩
  ·
    refine zr_iload_n F zd_OB_end_4 rfl ?_
    refine zr_aload_n F zd_OB_end_5 rfl ?_
    refine zr_get F 0 3 zd_OB_end_6 hf rfl (by decide) zw_491 rfl (by rfl) ?_
    refine zr_icmp_le F 14 zd_OB_end_9 (by decide) (fun h2 => ?_) (fun h2 => ?_)
    ·
      refine zr_aload_n F zd_OB_end_14 rfl ?_
      refine zr_iload_n F zd_OB_end_15 rfl ?_
      refine zr_put F 0 3 zd_OB_end_16 hf rfl (by decide) zw_491 rfl rfl rfl rfl (by exact (Nat.le_of_ble_eq_true rfl)) ?_
      refine zr_norm (zu (f) 0 (.inr (0, [.int w, .int h, .ref (b + 1), .int k, .ref (b + 2), .ref (b + sc), .ref (b + 3), .ref (b + 1121), .ref (b + 1178), .ref (b + 5), .int gr, .int pk]))) _ (rfl) rfl ?_
      refine zr_iconstv (v := 1) F zd_OB_end_19 (by decide) ?_
      exact zr_zret F hr rfl zd_OB_end_20 (Nat.le_of_ble_eq_true rfl) (Nat.le_of_ble_eq_true rfl) ⟨by rw [sp_OB_end, if_neg h1, if_pos h2], by rw [sw_OB_end, if_neg h1, if_pos h2], rfl⟩
    ·
      refine zr_iconstv (v := 0) F zd_OB_end_12 (by decide) ?_
      exact zr_zret F hr rfl zd_OB_end_13 (Nat.le_of_ble_eq_true rfl) (Nat.le_of_ble_eq_true rfl) ⟨by rw [sp_OB_end, if_neg h1, if_neg h2], by rw [sw_OB_end, if_neg h1, if_neg h2], rfl⟩
abbrev zb_OB_picked : ByteArray := prog_1_method_20_code
def zy_OB_picked : MethodName := ⟨"OrreryBox", "picked", "()I"⟩
theorem zc_OB_picked : Cond.code zy_OB_picked zb_OB_picked 1 (some .int) ∈ gw := gw_t 895 (by decide +kernel) rfl
theorem zq_OB_picked : zy_OB_picked.cls ≠ "java/lang/invoke/MethodHandle" ∧ zy_OB_picked.cls ≠ "java/lang/invoke/VarHandle" ∧ (parseMethodDescriptor zy_OB_picked.desc).map (fun d => d.parameters.length) = some 0 := by decide +kernel
theorem zd_OB_picked_0 : decode zb_OB_picked 0 = .ok (.aload_n 0, 1) := by decide +kernel
theorem zd_OB_picked_1 : decode zb_OB_picked 1 = .ok (.getfield 34, 3) := by decide +kernel
theorem zd_OB_picked_4 : decode zb_OB_picked 4 = .ok (.ireturn, 1) := by decide +kernel
def sp_OB_picked (w : Int32) (h : Int32) (tp : Int32) (sc : Nat) (gr : Int32) (pk : Int32) : Int32 := pk
set_option maxHeartbeats 4000000 in
set_option maxRecDepth 100000 in
theorem c_OB_picked (l : Launch) (D : va_G) (tA : Nat → ClassId) (b : Nat) (f : zV) (n : Nat) (w : Int32) (h : Int32) (tp : Int32) (sc : Nat) (gr : Int32) (pk : Int32) (hf : f 0 = some (.inr (0, [.int w, .int h, .ref (b + 1), .int tp, .ref (b + 2), .ref (b + sc), .ref (b + 3), .ref (b + 1121), .ref (b + 1178), .ref (b + 5), .int gr, .int pk])))  : zM l D tA b zy_OB_picked zb_OB_picked 1 (some .int) 0 0 0 0 [.ref (b + 0)] f n (zE (some (.int (sp_OB_picked w h tp sc gr pk))) f n) := by
  refine zM_of (own := "OrreryBox") (plainFor_of_name (by decide)) rfl (Nat.le_of_ble_eq_true rfl) (fun p e s m below meth c F hr hin hH => ?_)
  refine zr_aload_n F zd_OB_picked_0 rfl ?_
  refine zr_get F 0 11 zd_OB_picked_1 hf rfl (by decide) zw_499 rfl (by rfl) ?_
  exact zr_iret F hr zd_OB_picked_4 (Nat.le_of_ble_eq_true rfl) (Nat.le_of_ble_eq_true rfl) ⟨by rw [sp_OB_picked], rfl, rfl⟩
abbrev zb_OB_background : ByteArray := prog_1_method_13_code
def zy_OB_background : MethodName := ⟨"OrreryBox", "background", "(III)Z"⟩
theorem zc_OB_background : Cond.code zy_OB_background zb_OB_background 4 (some .boolean) ∈ gw := gw_t 617 (by decide +kernel) rfl
theorem zq_OB_background : zy_OB_background.cls ≠ "java/lang/invoke/MethodHandle" ∧ zy_OB_background.cls ≠ "java/lang/invoke/VarHandle" ∧ (parseMethodDescriptor zy_OB_background.desc).map (fun d => d.parameters.length) = some 3 := by decide +kernel
theorem zd_OB_background_0 : decode zb_OB_background 0 = .ok (.iload_n 1, 1) := by decide +kernel
theorem zd_OB_background_1 : decode zb_OB_background 1 = .ok (.iconst 0, 1) := by decide +kernel
theorem zd_OB_background_2 : decode zb_OB_background 2 = .ok (.sipush 255, 3) := by decide +kernel
theorem zd_OB_background_5 : decode zb_OB_background 5 = .ok (.invokestatic 97, 3) := by decide +kernel
theorem zd_OB_background_8 : decode zb_OB_background 8 = .ok (.ifCond .eq 25, 3) := by decide +kernel
theorem zd_OB_background_11 : decode zb_OB_background 11 = .ok (.iload_n 2, 1) := by decide +kernel
theorem zd_OB_background_12 : decode zb_OB_background 12 = .ok (.iconst 0, 1) := by decide +kernel
theorem zd_OB_background_13 : decode zb_OB_background 13 = .ok (.sipush 255, 3) := by decide +kernel
theorem zd_OB_background_16 : decode zb_OB_background 16 = .ok (.invokestatic 97, 3) := by decide +kernel
theorem zd_OB_background_19 : decode zb_OB_background 19 = .ok (.ifCond .eq 14, 3) := by decide +kernel
theorem zd_OB_background_22 : decode zb_OB_background 22 = .ok (.iload_n 3, 1) := by decide +kernel
theorem zd_OB_background_23 : decode zb_OB_background 23 = .ok (.iconst 0, 1) := by decide +kernel
theorem zd_OB_background_24 : decode zb_OB_background 24 = .ok (.sipush 255, 3) := by decide +kernel
theorem zd_OB_background_27 : decode zb_OB_background 27 = .ok (.invokestatic 97, 3) := by decide +kernel
theorem zd_OB_background_30 : decode zb_OB_background 30 = .ok (.ifCond .ne 5, 3) := by decide +kernel
theorem zd_OB_background_33 : decode zb_OB_background 33 = .ok (.iconst 0, 1) := by decide +kernel
theorem zd_OB_background_34 : decode zb_OB_background 34 = .ok (.ireturn, 1) := by decide +kernel
theorem zd_OB_background_35 : decode zb_OB_background 35 = .ok (.aload_n 0, 1) := by decide +kernel
theorem zd_OB_background_36 : decode zb_OB_background 36 = .ok (.iload_n 1, 1) := by decide +kernel
theorem zd_OB_background_37 : decode zb_OB_background 37 = .ok (.bipush 16, 2) := by decide +kernel
theorem zd_OB_background_39 : decode zb_OB_background 39 = .ok (.ishl, 1) := by decide +kernel
theorem zd_OB_background_40 : decode zb_OB_background 40 = .ok (.iload_n 2, 1) := by decide +kernel
theorem zd_OB_background_41 : decode zb_OB_background 41 = .ok (.bipush 8, 2) := by decide +kernel
theorem zd_OB_background_43 : decode zb_OB_background 43 = .ok (.ishl, 1) := by decide +kernel
theorem zd_OB_background_44 : decode zb_OB_background 44 = .ok (.ior, 1) := by decide +kernel
theorem zd_OB_background_45 : decode zb_OB_background 45 = .ok (.iload_n 3, 1) := by decide +kernel
theorem zd_OB_background_46 : decode zb_OB_background 46 = .ok (.ior, 1) := by decide +kernel
theorem zd_OB_background_47 : decode zb_OB_background 47 = .ok (.putfield 142, 3) := by decide +kernel
theorem zd_OB_background_50 : decode zb_OB_background 50 = .ok (.iconst 1, 1) := by decide +kernel
theorem zd_OB_background_51 : decode zb_OB_background 51 = .ok (.ireturn, 1) := by decide +kernel
theorem zw_498 : (Jvm.Cond.fieldLink "OrreryBox" (142 : Nat) "OrreryBox" "ground" "I") ∈ gw := gw_t 498 (by decide +kernel) rfl
def sp_OB_background (cr : Int32) (cg : Int32) (cb : Int32) (w : Int32) (h : Int32) (tp : Int32) (sc : Nat) (gr : Int32) (pk : Int32) : Int32 := (if (sp_OB_within (cr) (0) (255)) = 0 then 0 else (if (sp_OB_within (cg) (0) (255)) = 0 then 0 else (if (sp_OB_within (cb) (0) (255)) = 0 then 0 else 1)))
def sw_OB_background (tA : Nat → ClassId) (b : Nat) (f : zV) (cr : Int32) (cg : Int32) (cb : Int32) (w : Int32) (h : Int32) (tp : Int32) (sc : Nat) (gr : Int32) (pk : Int32) : zV := (if (sp_OB_within (cr) (0) (255)) = 0 then (f) else (if (sp_OB_within (cg) (0) (255)) = 0 then (f) else (if (sp_OB_within (cb) (0) (255)) = 0 then (f) else (zu (f) 0 (.inr (0, [.int w, .int h, .ref (b + 1), .int tp, .ref (b + 2), .ref (b + sc), .ref (b + 3), .ref (b + 1121), .ref (b + 1178), .ref (b + 5), .int ((((cr <<< (16 &&& 31)) ||| (cg <<< (8 &&& 31))) ||| cb)), .int pk]))))))
set_option maxHeartbeats 4000000 in
set_option maxRecDepth 100000 in
theorem c_OB_background (l : Launch) (D : va_G) (tA : Nat → ClassId) (b : Nat) (f : zV) (n : Nat) (cr : Int32) (cg : Int32) (cb : Int32) (w : Int32) (h : Int32) (tp : Int32) (sc : Nat) (gr : Int32) (pk : Int32) (hf : f 0 = some (.inr (0, [.int w, .int h, .ref (b + 1), .int tp, .ref (b + 2), .ref (b + sc), .ref (b + 3), .ref (b + 1121), .ref (b + 1178), .ref (b + 5), .int gr, .int pk])))  : zM l D tA b zy_OB_background zb_OB_background 4 (some .boolean) 1 22 0 0 [.ref (b + 0), .int cr, .int cg, .int cb] f n (zE (some (.int (sp_OB_background cr cg cb w h tp sc gr pk))) (sw_OB_background tA b f cr cg cb w h tp sc gr pk) n) := by
  refine zM_of (own := "OrreryBox") (plainFor_of_name (by decide)) rfl (Nat.le_of_ble_eq_true rfl) (fun p e s m below meth c F hr hin hH => ?_)
  refine zr_iload_n F zd_OB_background_0 rfl ?_
  refine zr_iconstv (v := 0) F zd_OB_background_1 (by decide) ?_
  refine zr_sipushv (v := 255) F zd_OB_background_2 (by decide) ?_
  refine zr_callS1 F (c_OB_within l D tA b _ _ (cr) (0) (255)) zd_OB_background_5 zs_OB_97 zq_OB_within rfl rfl ⟨(Nat.le_of_ble_eq_true rfl), (Nat.le_of_ble_eq_true rfl)⟩ (Nat.le_of_ble_eq_true rfl) ⟨(Nat.le_of_ble_eq_true rfl), (Nat.le_of_ble_eq_true rfl)⟩ ?_
  refine zr_if_eq F 33 zd_OB_background_8 (by decide) (fun h1 => ?_) (fun h1 => ?_)
  ·
    refine zr_iconstv (v := 0) F zd_OB_background_33 (by decide) ?_
    exact zr_zret F hr rfl zd_OB_background_34 (Nat.le_of_ble_eq_true rfl) (Nat.le_of_ble_eq_true rfl) ⟨by rw [sp_OB_background, if_pos h1], by rw [sw_OB_background, if_pos h1], rfl⟩
  ·
    refine zr_iload_n F zd_OB_background_11 rfl ?_
    refine zr_iconstv (v := 0) F zd_OB_background_12 (by decide) ?_
    refine zr_sipushv (v := 255) F zd_OB_background_13 (by decide) ?_
    refine zr_callS1 F (c_OB_within l D tA b _ _ (cg) (0) (255)) zd_OB_background_16 zs_OB_97 zq_OB_within rfl rfl ⟨(Nat.le_of_ble_eq_true rfl), (Nat.le_of_ble_eq_true rfl)⟩ (Nat.le_of_ble_eq_true rfl) ⟨(Nat.le_of_ble_eq_true rfl), (Nat.le_of_ble_eq_true rfl)⟩ ?_
    refine zr_if_eq F 33 zd_OB_background_19 (by decide) (fun h2 => ?_) (fun h2 => ?_)
    ·
      refine zr_iconstv (v := 0) F zd_OB_background_33 (by decide) ?_
      exact zr_zret F hr rfl zd_OB_background_34 (Nat.le_of_ble_eq_true rfl) (Nat.le_of_ble_eq_true rfl) ⟨by rw [sp_OB_background, if_neg h1, if_pos h2], by rw [sw_OB_background, if_neg h1, if_pos h2], rfl⟩
    ·
      refine zr_iload_n F zd_OB_background_22 rfl ?_
      refine zr_iconstv (v := 0) F zd_OB_background_23 (by decide) ?_
      refine zr_sipushv (v := 255) F zd_OB_background_24 (by decide) ?_
      refine zr_callS1 F (c_OB_within l D tA b _ _ (cb) (0) (255)) zd_OB_background_27 zs_OB_97 zq_OB_within rfl rfl ⟨(Nat.le_of_ble_eq_true rfl), (Nat.le_of_ble_eq_true rfl)⟩ (Nat.le_of_ble_eq_true rfl) ⟨(Nat.le_of_ble_eq_true rfl), (Nat.le_of_ble_eq_true rfl)⟩ ?_
      refine zr_if_ne F 35 zd_OB_background_30 (by decide) (fun h3 => ?_) (fun h3 => ?_)
      ·
        refine zr_aload_n F zd_OB_background_35 rfl ?_
        refine zr_iload_n F zd_OB_background_36 rfl ?_
        refine zr_bipushv (v := 16) F zd_OB_background_37 (by decide) ?_
        refine zr_ishl F zd_OB_background_39 ?_
        refine zr_iload_n F zd_OB_background_40 rfl ?_
        refine zr_bipushv (v := 8) F zd_OB_background_41 (by decide) ?_
        refine zr_ishl F zd_OB_background_43 ?_
        refine zr_ior F zd_OB_background_44 ?_
        refine zr_iload_n F zd_OB_background_45 rfl ?_
        refine zr_ior F zd_OB_background_46 ?_
        refine zr_put F 0 10 zd_OB_background_47 hf rfl (by decide) zw_498 rfl rfl rfl rfl (by exact (Nat.le_of_ble_eq_true rfl)) ?_
        refine zr_norm (zu (f) 0 (.inr (0, [.int w, .int h, .ref (b + 1), .int tp, .ref (b + 2), .ref (b + sc), .ref (b + 3), .ref (b + 1121), .ref (b + 1178), .ref (b + 5), .int ((((cr <<< (16 &&& 31)) ||| (cg <<< (8 &&& 31))) ||| cb)), .int pk]))) _ (rfl) rfl ?_
        refine zr_iconstv (v := 1) F zd_OB_background_50 (by decide) ?_
        exact zr_zret F hr rfl zd_OB_background_51 (Nat.le_of_ble_eq_true rfl) (Nat.le_of_ble_eq_true rfl) ⟨by rw [sp_OB_background, if_neg h1, if_neg h2, if_neg h3], by rw [sw_OB_background, if_neg h1, if_neg h2, if_neg h3], rfl⟩
      ·
        refine zr_iconstv (v := 0) F zd_OB_background_33 (by decide) ?_
        exact zr_zret F hr rfl zd_OB_background_34 (Nat.le_of_ble_eq_true rfl) (Nat.le_of_ble_eq_true rfl) ⟨by rw [sp_OB_background, if_neg h1, if_neg h2, if_pos h3], by rw [sw_OB_background, if_neg h1, if_neg h2, if_pos h3], rfl⟩
abbrev zb_OB_error : ByteArray := prog_1_method_5_code
def zy_OB_error : MethodName := ⟨"OrreryBox", "error", "(I)I"⟩
theorem zc_OB_error : Cond.code zy_OB_error zb_OB_error 2 (some .int) ∈ gw := gw_t 540 (by decide +kernel) rfl
theorem zq_OB_error : zy_OB_error.cls ≠ "java/lang/invoke/MethodHandle" ∧ zy_OB_error.cls ≠ "java/lang/invoke/VarHandle" ∧ (parseMethodDescriptor zy_OB_error.desc).map (fun d => d.parameters.length) = some 1 := by decide +kernel
theorem zd_OB_error_0 : decode zb_OB_error 0 = .ok (.iload_n 1, 1) := by decide +kernel
theorem zd_OB_error_1 : decode zb_OB_error 1 = .ok (.ifCond .ne 13, 3) := by decide +kernel
theorem zd_OB_error_4 : decode zb_OB_error 4 = .ok (.aload_n 0, 1) := by decide +kernel
theorem zd_OB_error_5 : decode zb_OB_error 5 = .ok (.getfield 23, 3) := by decide +kernel
theorem zd_OB_error_8 : decode zb_OB_error 8 = .ok (.getfield 88, 3) := by decide +kernel
theorem zd_OB_error_11 : decode zb_OB_error 11 = .ok (.goto 19, 3) := by decide +kernel
theorem zd_OB_error_14 : decode zb_OB_error 14 = .ok (.iload_n 1, 1) := by decide +kernel
theorem zd_OB_error_15 : decode zb_OB_error 15 = .ok (.iconst 1, 1) := by decide +kernel
theorem zd_OB_error_16 : decode zb_OB_error 16 = .ok (.if_icmp .ne 13, 3) := by decide +kernel
theorem zd_OB_error_19 : decode zb_OB_error 19 = .ok (.aload_n 0, 1) := by decide +kernel
theorem zd_OB_error_20 : decode zb_OB_error 20 = .ok (.getfield 23, 3) := by decide +kernel
theorem zd_OB_error_23 : decode zb_OB_error 23 = .ok (.getfield 91, 3) := by decide +kernel
theorem zd_OB_error_26 : decode zb_OB_error 26 = .ok (.goto 4, 3) := by decide +kernel
theorem zd_OB_error_29 : decode zb_OB_error 29 = .ok (.iconst 0, 1) := by decide +kernel
theorem zd_OB_error_30 : decode zb_OB_error 30 = .ok (.ireturn, 1) := by decide +kernel
theorem zw_49 : (Jvm.Cond.fieldLink "OrreryBox" (91 : Nat) "OrreryBox$Reader" "wrongAt" "I") ∈ gw := gw_t 49 (by decide +kernel) rfl
theorem zw_47 : (Jvm.Cond.fieldLink "OrreryBox" (88 : Nat) "OrreryBox$Reader" "wrong" "I") ∈ gw := gw_t 47 (by decide +kernel) rfl
def sp_OB_error (k : Int32) (w : Int32) (h : Int32) (tp : Int32) (sc : Nat) (gr : Int32) (pk : Int32) (wr : Int32) (wq : Int32) (tx : Value) (ln : Int32) (ap : Int32) (na : Int32) (rs : Value) : Int32 := (if k = 0 then wr else (if k = 1 then wq else 0))
set_option maxHeartbeats 4000000 in
set_option maxRecDepth 100000 in
theorem c_OB_error (l : Launch) (D : va_G) (tA : Nat → ClassId) (b : Nat) (f : zV) (n : Nat) (k : Int32) (w : Int32) (h : Int32) (tp : Int32) (sc : Nat) (gr : Int32) (pk : Int32) (wr : Int32) (wq : Int32) (tx : Value) (ln : Int32) (ap : Int32) (na : Int32) (rs : Value) (hf : f 0 = some (.inr (0, [.int w, .int h, .ref (b + 1), .int tp, .ref (b + 2), .ref (b + sc), .ref (b + 3), .ref (b + 1121), .ref (b + 1178), .ref (b + 5), .int gr, .int pk]))) (hr3 : f 3 = some (.inr (7, [.int wr, .int wq, .ref (b + 4), tx, .int ln, .int ap, .int na, rs])))  : zM l D tA b zy_OB_error zb_OB_error 2 (some .int) 0 0 0 0 [.ref (b + 0), .int k] f n (zE (some (.int (sp_OB_error k w h tp sc gr pk wr wq tx ln ap na rs))) f n) := by
  refine zM_of (own := "OrreryBox") (plainFor_of_name (by decide)) rfl (Nat.le_of_ble_eq_true rfl) (fun p e s m below meth c F hr hin hH => ?_)
  refine zr_iload_n F zd_OB_error_0 rfl ?_
  refine zr_if_ne F 14 zd_OB_error_1 (by decide) (fun h1 => ?_) (fun h1 => ?_)
  ·
    refine zr_iload_n F zd_OB_error_14 rfl ?_
    refine zr_iconstv (v := 1) F zd_OB_error_15 (by decide) ?_
    refine zr_icmp_ne F 29 zd_OB_error_16 (by decide) (fun h2 => ?_) (fun h2 => ?_)
    ·
      refine zr_iconstv (v := 0) F zd_OB_error_29 (by decide) ?_
      exact zr_iret F hr zd_OB_error_30 (Nat.le_of_ble_eq_true rfl) (Nat.le_of_ble_eq_true rfl) ⟨by rw [sp_OB_error, if_neg h1, if_neg h2], rfl, rfl⟩
    ·
      refine zr_aload_n F zd_OB_error_19 rfl ?_
      refine zr_get F 0 6 zd_OB_error_20 hf rfl (by decide) zw_494 rfl (by rfl) ?_
      refine zr_get F 7 1 zd_OB_error_23 hr3 rfl (by decide) zw_49 rfl (by rfl) ?_
      refine zr_goto F 30 zd_OB_error_26 (by decide) ?_
      exact zr_iret F hr zd_OB_error_30 (Nat.le_of_ble_eq_true rfl) (Nat.le_of_ble_eq_true rfl) ⟨by rw [sp_OB_error, if_neg h1, if_pos h2], rfl, rfl⟩
  ·
    refine zr_aload_n F zd_OB_error_4 rfl ?_
    refine zr_get F 0 6 zd_OB_error_5 hf rfl (by decide) zw_494 rfl (by rfl) ?_
    refine zr_get F 7 0 zd_OB_error_8 hr3 rfl (by decide) zw_47 rfl (by rfl) ?_
    refine zr_goto F 30 zd_OB_error_11 (by decide) ?_
    exact zr_iret F hr zd_OB_error_30 (Nat.le_of_ble_eq_true rfl) (Nat.le_of_ble_eq_true rfl) ⟨by rw [sp_OB_error, if_pos h1], rfl, rfl⟩
abbrev zb_OB_hasPixel : ByteArray := prog_1_method_25_code
def zy_OB_hasPixel : MethodName := ⟨"OrreryBox", "hasPixel", "(II)Z"⟩
theorem zc_OB_hasPixel : Cond.code zy_OB_hasPixel zb_OB_hasPixel 3 (some .boolean) ∈ gw := gw_t 867 (by decide +kernel) rfl
theorem zq_OB_hasPixel : zy_OB_hasPixel.cls ≠ "java/lang/invoke/MethodHandle" ∧ zy_OB_hasPixel.cls ≠ "java/lang/invoke/VarHandle" ∧ (parseMethodDescriptor zy_OB_hasPixel.desc).map (fun d => d.parameters.length) = some 2 := by decide +kernel
theorem zd_OB_hasPixel_0 : decode zb_OB_hasPixel 0 = .ok (.iload_n 1, 1) := by decide +kernel
theorem zd_OB_hasPixel_1 : decode zb_OB_hasPixel 1 = .ok (.iconst 0, 1) := by decide +kernel
theorem zd_OB_hasPixel_2 : decode zb_OB_hasPixel 2 = .ok (.aload_n 0, 1) := by decide +kernel
theorem zd_OB_hasPixel_3 : decode zb_OB_hasPixel 3 = .ok (.getfield 42, 3) := by decide +kernel
theorem zd_OB_hasPixel_6 : decode zb_OB_hasPixel 6 = .ok (.iconst 1, 1) := by decide +kernel
theorem zd_OB_hasPixel_7 : decode zb_OB_hasPixel 7 = .ok (.isub, 1) := by decide +kernel
theorem zd_OB_hasPixel_8 : decode zb_OB_hasPixel 8 = .ok (.invokestatic 97, 3) := by decide +kernel
theorem zd_OB_hasPixel_11 : decode zb_OB_hasPixel 11 = .ok (.ifCond .eq 21, 3) := by decide +kernel
theorem zd_OB_hasPixel_14 : decode zb_OB_hasPixel 14 = .ok (.iload_n 2, 1) := by decide +kernel
theorem zd_OB_hasPixel_15 : decode zb_OB_hasPixel 15 = .ok (.iconst 0, 1) := by decide +kernel
theorem zd_OB_hasPixel_16 : decode zb_OB_hasPixel 16 = .ok (.aload_n 0, 1) := by decide +kernel
theorem zd_OB_hasPixel_17 : decode zb_OB_hasPixel 17 = .ok (.getfield 45, 3) := by decide +kernel
theorem zd_OB_hasPixel_20 : decode zb_OB_hasPixel 20 = .ok (.iconst 1, 1) := by decide +kernel
theorem zd_OB_hasPixel_21 : decode zb_OB_hasPixel 21 = .ok (.isub, 1) := by decide +kernel
theorem zd_OB_hasPixel_22 : decode zb_OB_hasPixel 22 = .ok (.invokestatic 97, 3) := by decide +kernel
theorem zd_OB_hasPixel_25 : decode zb_OB_hasPixel 25 = .ok (.ifCond .eq 7, 3) := by decide +kernel
theorem zd_OB_hasPixel_28 : decode zb_OB_hasPixel 28 = .ok (.iconst 1, 1) := by decide +kernel
theorem zd_OB_hasPixel_29 : decode zb_OB_hasPixel 29 = .ok (.goto 4, 3) := by decide +kernel
theorem zd_OB_hasPixel_32 : decode zb_OB_hasPixel 32 = .ok (.iconst 0, 1) := by decide +kernel
theorem zd_OB_hasPixel_33 : decode zb_OB_hasPixel 33 = .ok (.ireturn, 1) := by decide +kernel
def sp_OB_hasPixel (x : Int32) (y : Int32) (w : Int32) (h : Int32) (tp : Int32) (sc : Nat) (gr : Int32) (pk : Int32) : Int32 := (if (sp_OB_within (x) (0) ((w - 1))) = 0 then 0 else (if (sp_OB_within (y) (0) ((h - 1))) = 0 then 0 else 1))
set_option maxHeartbeats 4000000 in
set_option maxRecDepth 100000 in
theorem c_OB_hasPixel (l : Launch) (D : va_G) (tA : Nat → ClassId) (b : Nat) (f : zV) (n : Nat) (x : Int32) (y : Int32) (w : Int32) (h : Int32) (tp : Int32) (sc : Nat) (gr : Int32) (pk : Int32) (hf : f 0 = some (.inr (0, [.int w, .int h, .ref (b + 1), .int tp, .ref (b + 2), .ref (b + sc), .ref (b + 3), .ref (b + 1121), .ref (b + 1178), .ref (b + 5), .int gr, .int pk])))  : zM l D tA b zy_OB_hasPixel zb_OB_hasPixel 3 (some .boolean) 1 22 0 0 [.ref (b + 0), .int x, .int y] f n (zE (some (.int (sp_OB_hasPixel x y w h tp sc gr pk))) f n) := by
  refine zM_of (own := "OrreryBox") (plainFor_of_name (by decide)) rfl (Nat.le_of_ble_eq_true rfl) (fun p e s m below meth c F hr hin hH => ?_)
  refine zr_iload_n F zd_OB_hasPixel_0 rfl ?_
  refine zr_iconstv (v := 0) F zd_OB_hasPixel_1 (by decide) ?_
  refine zr_aload_n F zd_OB_hasPixel_2 rfl ?_
  refine zr_get F 0 0 zd_OB_hasPixel_3 hf rfl (by decide) zw_488 rfl (by rfl) ?_
  refine zr_iconstv (v := 1) F zd_OB_hasPixel_6 (by decide) ?_
  refine zr_isub F zd_OB_hasPixel_7 ?_
  refine zr_callS1 F (c_OB_within l D tA b _ _ (x) (0) ((w - 1))) zd_OB_hasPixel_8 zs_OB_97 zq_OB_within rfl rfl ⟨(Nat.le_of_ble_eq_true rfl), (Nat.le_of_ble_eq_true rfl)⟩ (Nat.le_of_ble_eq_true rfl) ⟨(Nat.le_of_ble_eq_true rfl), (Nat.le_of_ble_eq_true rfl)⟩ ?_
  refine zr_if_eq F 32 zd_OB_hasPixel_11 (by decide) (fun h1 => ?_) (fun h1 => ?_)
  ·
    refine zr_iconstv (v := 0) F zd_OB_hasPixel_32 (by decide) ?_
    exact zr_zret F hr rfl zd_OB_hasPixel_33 (Nat.le_of_ble_eq_true rfl) (Nat.le_of_ble_eq_true rfl) ⟨by rw [sp_OB_hasPixel, if_pos h1], rfl, rfl⟩
  ·
    refine zr_iload_n F zd_OB_hasPixel_14 rfl ?_
    refine zr_iconstv (v := 0) F zd_OB_hasPixel_15 (by decide) ?_
    refine zr_aload_n F zd_OB_hasPixel_16 rfl ?_
    refine zr_get F 0 1 zd_OB_hasPixel_17 hf rfl (by decide) zw_489 rfl (by rfl) ?_
    refine zr_iconstv (v := 1) F zd_OB_hasPixel_20 (by decide) ?_
    refine zr_isub F zd_OB_hasPixel_21 ?_
    refine zr_callS1 F (c_OB_within l D tA b _ _ (y) (0) ((h - 1))) zd_OB_hasPixel_22 zs_OB_97 zq_OB_within rfl rfl ⟨(Nat.le_of_ble_eq_true rfl), (Nat.le_of_ble_eq_true rfl)⟩ (Nat.le_of_ble_eq_true rfl) ⟨(Nat.le_of_ble_eq_true rfl), (Nat.le_of_ble_eq_true rfl)⟩ ?_
    refine zr_if_eq F 32 zd_OB_hasPixel_25 (by decide) (fun h2 => ?_) (fun h2 => ?_)
    ·
      refine zr_iconstv (v := 0) F zd_OB_hasPixel_32 (by decide) ?_
      exact zr_zret F hr rfl zd_OB_hasPixel_33 (Nat.le_of_ble_eq_true rfl) (Nat.le_of_ble_eq_true rfl) ⟨by rw [sp_OB_hasPixel, if_neg h1, if_pos h2], rfl, rfl⟩
    ·
      refine zr_iconstv (v := 1) F zd_OB_hasPixel_28 (by decide) ?_
      refine zr_goto F 33 zd_OB_hasPixel_29 (by decide) ?_
      exact zr_zret F hr rfl zd_OB_hasPixel_33 (Nat.le_of_ble_eq_true rfl) (Nat.le_of_ble_eq_true rfl) ⟨by rw [sp_OB_hasPixel, if_neg h1, if_neg h2], rfl, rfl⟩
abbrev zb_MD_thrown : ByteArray := prog_14_method_2_code
def zy_MD_thrown : MethodName := ⟨"OrreryBoxModel", "thrown", "()I"⟩
theorem zc_MD_thrown : Cond.code zy_MD_thrown zb_MD_thrown 1 (some .int) ∈ gw := gw_t 1744 (by decide +kernel) rfl
theorem zq_MD_thrown : zy_MD_thrown.cls ≠ "java/lang/invoke/MethodHandle" ∧ zy_MD_thrown.cls ≠ "java/lang/invoke/VarHandle" ∧ (parseMethodDescriptor zy_MD_thrown.desc).map (fun d => d.parameters.length) = some 0 := by decide +kernel
theorem zd_MD_thrown_0 : decode zb_MD_thrown 0 = .ok (.aload_n 0, 1) := by decide +kernel
theorem zd_MD_thrown_1 : decode zb_MD_thrown 1 = .ok (.getfield 80, 3) := by decide +kernel
theorem zd_MD_thrown_4 : decode zb_MD_thrown 4 = .ok (.ireturn, 1) := by decide +kernel
theorem zw_1691 : (Jvm.Cond.fieldLink "OrreryBoxModel" (80 : Nat) "OrreryBoxModel" "thrown" "I") ∈ gw := gw_t 1691 (by decide +kernel) rfl
def sp_MD_thrown (w : Int32) (h : Int32) (tp : Int32) (ti : Int32) (th : Int32) (wk : Int32) (wa : Int32) (bg : Int32) (pk : Int32) : Int32 := th
set_option maxHeartbeats 4000000 in
set_option maxRecDepth 100000 in
theorem c_MD_thrown (l : Launch) (D : va_G) (tA : Nat → ClassId) (b : Nat) (f : zV) (n : Nat) (w : Int32) (h : Int32) (tp : Int32) (ti : Int32) (th : Int32) (wk : Int32) (wa : Int32) (bg : Int32) (pk : Int32) (hf : f 1185 = some (.inr (1, [.int w, .int h, .ref (b + 1186), .int tp, .ref (b + 1187), .ref (b + 1217), .ref (b + 1247), .ref (b + 1277), .ref (b + 1285), .ref (b + 1278), .int ti, .int th, .int wk, .int wa, .ref (b + 1281), .int bg, .ref (b + 1282), .ref (b + 1283), .ref (b + 1284), .int pk])))  : zM l D tA b zy_MD_thrown zb_MD_thrown 1 (some .int) 0 0 0 0 [.ref (b + 1185)] f n (zE (some (.int (sp_MD_thrown w h tp ti th wk wa bg pk))) f n) := by
  refine zM_of (own := "OrreryBoxModel") (plainFor_of_name (by decide)) rfl (Nat.le_of_ble_eq_true rfl) (fun p e s m below meth c F hr hin hH => ?_)
  refine zr_aload_n F zd_MD_thrown_0 rfl ?_
  refine zr_get F 1 11 zd_MD_thrown_1 hf rfl (by decide) zw_1691 rfl (by rfl) ?_
  exact zr_iret F hr zd_MD_thrown_4 (Nat.le_of_ble_eq_true rfl) (Nat.le_of_ble_eq_true rfl) ⟨by rw [sp_MD_thrown], rfl, rfl⟩
abbrev zb_MD_end : ByteArray := prog_14_method_5_code
def zy_MD_end : MethodName := ⟨"OrreryBoxModel", "end", "(I)Z"⟩
theorem zc_MD_end : Cond.code zy_MD_end zb_MD_end 2 (some .boolean) ∈ gw := gw_t 1756 (by decide +kernel) rfl
theorem zq_MD_end : zy_MD_end.cls ≠ "java/lang/invoke/MethodHandle" ∧ zy_MD_end.cls ≠ "java/lang/invoke/VarHandle" ∧ (parseMethodDescriptor zy_MD_end.desc).map (fun d => d.parameters.length) = some 1 := by decide +kernel
theorem zd_MD_end_0 : decode zb_MD_end 0 = .ok (.aload_n 0, 1) := by decide +kernel
theorem zd_MD_end_1 : decode zb_MD_end 1 = .ok (.iconst 0, 1) := by decide +kernel
theorem zd_MD_end_2 : decode zb_MD_end 2 = .ok (.putfield 80, 3) := by decide +kernel
theorem zd_MD_end_5 : decode zb_MD_end 5 = .ok (.iload_n 1, 1) := by decide +kernel
theorem zd_MD_end_6 : decode zb_MD_end 6 = .ok (.ifCond .lt 11, 3) := by decide +kernel
theorem zd_MD_end_9 : decode zb_MD_end 9 = .ok (.iload_n 1, 1) := by decide +kernel
theorem zd_MD_end_10 : decode zb_MD_end 10 = .ok (.aload_n 0, 1) := by decide +kernel
theorem zd_MD_end_11 : decode zb_MD_end 11 = .ok (.getfield 83, 3) := by decide +kernel
theorem zd_MD_end_14 : decode zb_MD_end 14 = .ok (.if_icmp .le 5, 3) := by decide +kernel
theorem zd_MD_end_17 : decode zb_MD_end 17 = .ok (.iconst 0, 1) := by decide +kernel
theorem zd_MD_end_18 : decode zb_MD_end 18 = .ok (.ireturn, 1) := by decide +kernel
theorem zd_MD_end_19 : decode zb_MD_end 19 = .ok (.aload_n 0, 1) := by decide +kernel
theorem zd_MD_end_20 : decode zb_MD_end 20 = .ok (.iload_n 1, 1) := by decide +kernel
theorem zd_MD_end_21 : decode zb_MD_end 21 = .ok (.putfield 83, 3) := by decide +kernel
theorem zd_MD_end_24 : decode zb_MD_end 24 = .ok (.iconst 1, 1) := by decide +kernel
theorem zd_MD_end_25 : decode zb_MD_end 25 = .ok (.ireturn, 1) := by decide +kernel
theorem zw_1683 : (Jvm.Cond.fieldLink "OrreryBoxModel" (83 : Nat) "OrreryBoxModel" "tapeLong" "I") ∈ gw := gw_t 1683 (by decide +kernel) rfl
def sp_MD_end (k : Int32) (w : Int32) (h : Int32) (tp : Int32) (ti : Int32) (th : Int32) (wk : Int32) (wa : Int32) (bg : Int32) (pk : Int32) : Int32 := (if k < 0 then 0 else (if k ≤ tp then 1 else 0))
def sw_MD_end (tA : Nat → ClassId) (b : Nat) (f : zV) (k : Int32) (w : Int32) (h : Int32) (tp : Int32) (ti : Int32) (th : Int32) (wk : Int32) (wa : Int32) (bg : Int32) (pk : Int32) : zV := (if k < 0 then (zu (f) 1185 (.inr (1, [.int w, .int h, .ref (b + 1186), .int tp, .ref (b + 1187), .ref (b + 1217), .ref (b + 1247), .ref (b + 1277), .ref (b + 1285), .ref (b + 1278), .int ti, .int 0, .int wk, .int wa, .ref (b + 1281), .int bg, .ref (b + 1282), .ref (b + 1283), .ref (b + 1284), .int pk]))) else (if k ≤ tp then (zu (f) 1185 (.inr (1, [.int w, .int h, .ref (b + 1186), .int k, .ref (b + 1187), .ref (b + 1217), .ref (b + 1247), .ref (b + 1277), .ref (b + 1285), .ref (b + 1278), .int ti, .int 0, .int wk, .int wa, .ref (b + 1281), .int bg, .ref (b + 1282), .ref (b + 1283), .ref (b + 1284), .int pk]))) else (zu (f) 1185 (.inr (1, [.int w, .int h, .ref (b + 1186), .int tp, .ref (b + 1187), .ref (b + 1217), .ref (b + 1247), .ref (b + 1277), .ref (b + 1285), .ref (b + 1278), .int ti, .int 0, .int wk, .int wa, .ref (b + 1281), .int bg, .ref (b + 1282), .ref (b + 1283), .ref (b + 1284), .int pk])))))
set_option maxHeartbeats 4000000 in
set_option maxRecDepth 100000 in
theorem c_MD_end (l : Launch) (D : va_G) (tA : Nat → ClassId) (b : Nat) (f : zV) (n : Nat) (k : Int32) (w : Int32) (h : Int32) (tp : Int32) (ti : Int32) (th : Int32) (wk : Int32) (wa : Int32) (bg : Int32) (pk : Int32) (hf : f 1185 = some (.inr (1, [.int w, .int h, .ref (b + 1186), .int tp, .ref (b + 1187), .ref (b + 1217), .ref (b + 1247), .ref (b + 1277), .ref (b + 1285), .ref (b + 1278), .int ti, .int th, .int wk, .int wa, .ref (b + 1281), .int bg, .ref (b + 1282), .ref (b + 1283), .ref (b + 1284), .int pk])))  : zM l D tA b zy_MD_end zb_MD_end 2 (some .boolean) 0 0 0 0 [.ref (b + 1185), .int k] f n (zE (some (.int (sp_MD_end k w h tp ti th wk wa bg pk))) (sw_MD_end tA b f k w h tp ti th wk wa bg pk) n) := by
  refine zM_of (own := "OrreryBoxModel") (plainFor_of_name (by decide)) rfl (Nat.le_of_ble_eq_true rfl) (fun p e s m below meth c F hr hin hH => ?_)
  refine zr_aload_n F zd_MD_end_0 rfl ?_
  refine zr_iconstv (v := 0) F zd_MD_end_1 (by decide) ?_
  refine zr_put F 1 11 zd_MD_end_2 hf rfl (by decide) zw_1691 rfl rfl rfl rfl (by exact (Nat.le_of_ble_eq_true rfl)) ?_
  refine zr_norm (zu (f) 1185 (.inr (1, [.int w, .int h, .ref (b + 1186), .int tp, .ref (b + 1187), .ref (b + 1217), .ref (b + 1247), .ref (b + 1277), .ref (b + 1285), .ref (b + 1278), .int ti, .int 0, .int wk, .int wa, .ref (b + 1281), .int bg, .ref (b + 1282), .ref (b + 1283), .ref (b + 1284), .int pk]))) _ (rfl) rfl ?_
  refine zr_iload_n F zd_MD_end_5 rfl ?_
  refine zr_if_lt F 17 zd_MD_end_6 (by decide) (fun h1 => ?_) (fun h1 => ?_)
  ·
    refine zr_iconstv (v := 0) F zd_MD_end_17 (by decide) ?_
    exact zr_zret F hr rfl zd_MD_end_18 (Nat.le_of_ble_eq_true rfl) (Nat.le_of_ble_eq_true rfl) ⟨by rw [sp_MD_end, if_pos h1], by rw [sw_MD_end, if_pos h1], rfl⟩
  ·
    refine zr_iload_n F zd_MD_end_9 rfl ?_
    refine zr_aload_n F zd_MD_end_10 rfl ?_
    refine zr_get F 1 3 zd_MD_end_11 (zu_s _ _ _) rfl (by decide) zw_1683 rfl (by rfl) ?_
    refine zr_icmp_le F 19 zd_MD_end_14 (by decide) (fun h2 => ?_) (fun h2 => ?_)
    ·
      refine zr_aload_n F zd_MD_end_19 rfl ?_
      refine zr_iload_n F zd_MD_end_20 rfl ?_
      refine zr_put F 1 3 zd_MD_end_21 (zu_s _ _ _) rfl (by decide) zw_1683 rfl rfl rfl rfl (by exact (Nat.le_of_ble_eq_true rfl)) ?_
      refine zr_norm (zu (f) 1185 (.inr (1, [.int w, .int h, .ref (b + 1186), .int k, .ref (b + 1187), .ref (b + 1217), .ref (b + 1247), .ref (b + 1277), .ref (b + 1285), .ref (b + 1278), .int ti, .int 0, .int wk, .int wa, .ref (b + 1281), .int bg, .ref (b + 1282), .ref (b + 1283), .ref (b + 1284), .int pk]))) _ (zu_zu _ _ _ _) rfl ?_
      refine zr_iconstv (v := 1) F zd_MD_end_24 (by decide) ?_
      exact zr_zret F hr rfl zd_MD_end_25 (Nat.le_of_ble_eq_true rfl) (Nat.le_of_ble_eq_true rfl) ⟨by rw [sp_MD_end, if_neg h1, if_pos h2], by rw [sw_MD_end, if_neg h1, if_pos h2], rfl⟩
    ·
      refine zr_iconstv (v := 0) F zd_MD_end_17 (by decide) ?_
      exact zr_zret F hr rfl zd_MD_end_18 (Nat.le_of_ble_eq_true rfl) (Nat.le_of_ble_eq_true rfl) ⟨by rw [sp_MD_end, if_neg h1, if_neg h2], by rw [sw_MD_end, if_neg h1, if_neg h2], rfl⟩
abbrev zb_MD_error : ByteArray := prog_14_method_7_code
def zy_MD_error : MethodName := ⟨"OrreryBoxModel", "error", "(I)I"⟩
theorem zc_MD_error : Cond.code zy_MD_error zb_MD_error 2 (some .int) ∈ gw := gw_t 1925 (by decide +kernel) rfl
theorem zq_MD_error : zy_MD_error.cls ≠ "java/lang/invoke/MethodHandle" ∧ zy_MD_error.cls ≠ "java/lang/invoke/VarHandle" ∧ (parseMethodDescriptor zy_MD_error.desc).map (fun d => d.parameters.length) = some 1 := by decide +kernel
theorem zd_MD_error_0 : decode zb_MD_error 0 = .ok (.aload_n 0, 1) := by decide +kernel
theorem zd_MD_error_1 : decode zb_MD_error 1 = .ok (.iconst 0, 1) := by decide +kernel
theorem zd_MD_error_2 : decode zb_MD_error 2 = .ok (.putfield 80, 3) := by decide +kernel
theorem zd_MD_error_5 : decode zb_MD_error 5 = .ok (.iload_n 1, 1) := by decide +kernel
theorem zd_MD_error_6 : decode zb_MD_error 6 = .ok (.ifCond .ne 10, 3) := by decide +kernel
theorem zd_MD_error_9 : decode zb_MD_error 9 = .ok (.aload_n 0, 1) := by decide +kernel
theorem zd_MD_error_10 : decode zb_MD_error 10 = .ok (.getfield 96, 3) := by decide +kernel
theorem zd_MD_error_13 : decode zb_MD_error 13 = .ok (.goto 16, 3) := by decide +kernel
theorem zd_MD_error_16 : decode zb_MD_error 16 = .ok (.iload_n 1, 1) := by decide +kernel
theorem zd_MD_error_17 : decode zb_MD_error 17 = .ok (.iconst 1, 1) := by decide +kernel
theorem zd_MD_error_18 : decode zb_MD_error 18 = .ok (.if_icmp .ne 10, 3) := by decide +kernel
theorem zd_MD_error_21 : decode zb_MD_error 21 = .ok (.aload_n 0, 1) := by decide +kernel
theorem zd_MD_error_22 : decode zb_MD_error 22 = .ok (.getfield 102, 3) := by decide +kernel
theorem zd_MD_error_25 : decode zb_MD_error 25 = .ok (.goto 4, 3) := by decide +kernel
theorem zd_MD_error_28 : decode zb_MD_error 28 = .ok (.iconst 0, 1) := by decide +kernel
theorem zd_MD_error_29 : decode zb_MD_error 29 = .ok (.ireturn, 1) := by decide +kernel
theorem zw_1693 : (Jvm.Cond.fieldLink "OrreryBoxModel" (102 : Nat) "OrreryBoxModel" "wrongAt" "I") ∈ gw := gw_t 1693 (by decide +kernel) rfl
theorem zw_1692 : (Jvm.Cond.fieldLink "OrreryBoxModel" (96 : Nat) "OrreryBoxModel" "wrongKind" "I") ∈ gw := gw_t 1692 (by decide +kernel) rfl
def sp_MD_error (k : Int32) (w : Int32) (h : Int32) (tp : Int32) (ti : Int32) (th : Int32) (wk : Int32) (wa : Int32) (bg : Int32) (pk : Int32) : Int32 := (if k = 0 then wk else (if k = 1 then wa else 0))
def sw_MD_error (tA : Nat → ClassId) (b : Nat) (f : zV) (k : Int32) (w : Int32) (h : Int32) (tp : Int32) (ti : Int32) (th : Int32) (wk : Int32) (wa : Int32) (bg : Int32) (pk : Int32) : zV := (if k = 0 then (zu (f) 1185 (.inr (1, [.int w, .int h, .ref (b + 1186), .int tp, .ref (b + 1187), .ref (b + 1217), .ref (b + 1247), .ref (b + 1277), .ref (b + 1285), .ref (b + 1278), .int ti, .int 0, .int wk, .int wa, .ref (b + 1281), .int bg, .ref (b + 1282), .ref (b + 1283), .ref (b + 1284), .int pk]))) else (if k = 1 then (zu (f) 1185 (.inr (1, [.int w, .int h, .ref (b + 1186), .int tp, .ref (b + 1187), .ref (b + 1217), .ref (b + 1247), .ref (b + 1277), .ref (b + 1285), .ref (b + 1278), .int ti, .int 0, .int wk, .int wa, .ref (b + 1281), .int bg, .ref (b + 1282), .ref (b + 1283), .ref (b + 1284), .int pk]))) else (zu (f) 1185 (.inr (1, [.int w, .int h, .ref (b + 1186), .int tp, .ref (b + 1187), .ref (b + 1217), .ref (b + 1247), .ref (b + 1277), .ref (b + 1285), .ref (b + 1278), .int ti, .int 0, .int wk, .int wa, .ref (b + 1281), .int bg, .ref (b + 1282), .ref (b + 1283), .ref (b + 1284), .int pk])))))
set_option maxHeartbeats 4000000 in
set_option maxRecDepth 100000 in
theorem c_MD_error (l : Launch) (D : va_G) (tA : Nat → ClassId) (b : Nat) (f : zV) (n : Nat) (k : Int32) (w : Int32) (h : Int32) (tp : Int32) (ti : Int32) (th : Int32) (wk : Int32) (wa : Int32) (bg : Int32) (pk : Int32) (hf : f 1185 = some (.inr (1, [.int w, .int h, .ref (b + 1186), .int tp, .ref (b + 1187), .ref (b + 1217), .ref (b + 1247), .ref (b + 1277), .ref (b + 1285), .ref (b + 1278), .int ti, .int th, .int wk, .int wa, .ref (b + 1281), .int bg, .ref (b + 1282), .ref (b + 1283), .ref (b + 1284), .int pk])))  : zM l D tA b zy_MD_error zb_MD_error 2 (some .int) 0 0 0 0 [.ref (b + 1185), .int k] f n (zE (some (.int (sp_MD_error k w h tp ti th wk wa bg pk))) (sw_MD_error tA b f k w h tp ti th wk wa bg pk) n) := by
  refine zM_of (own := "OrreryBoxModel") (plainFor_of_name (by decide)) rfl (Nat.le_of_ble_eq_true rfl) (fun p e s m below meth c F hr hin hH => ?_)
  refine zr_aload_n F zd_MD_error_0 rfl ?_
  refine zr_iconstv (v := 0) F zd_MD_error_1 (by decide) ?_
  refine zr_put F 1 11 zd_MD_error_2 hf rfl (by decide) zw_1691 rfl rfl rfl rfl (by exact (Nat.le_of_ble_eq_true rfl)) ?_
  refine zr_norm (zu (f) 1185 (.inr (1, [.int w, .int h, .ref (b + 1186), .int tp, .ref (b + 1187), .ref (b + 1217), .ref (b + 1247), .ref (b + 1277), .ref (b + 1285), .ref (b + 1278), .int ti, .int 0, .int wk, .int wa, .ref (b + 1281), .int bg, .ref (b + 1282), .ref (b + 1283), .ref (b + 1284), .int pk]))) _ (rfl) rfl ?_
  refine zr_iload_n F zd_MD_error_5 rfl ?_
  refine zr_if_ne F 16 zd_MD_error_6 (by decide) (fun h1 => ?_) (fun h1 => ?_)
  ·
    refine zr_iload_n F zd_MD_error_16 rfl ?_
    refine zr_iconstv (v := 1) F zd_MD_error_17 (by decide) ?_
    refine zr_icmp_ne F 28 zd_MD_error_18 (by decide) (fun h2 => ?_) (fun h2 => ?_)
    ·
      refine zr_iconstv (v := 0) F zd_MD_error_28 (by decide) ?_
      exact zr_iret F hr zd_MD_error_29 (Nat.le_of_ble_eq_true rfl) (Nat.le_of_ble_eq_true rfl) ⟨by rw [sp_MD_error, if_neg h1, if_neg h2], by rw [sw_MD_error, if_neg h1, if_neg h2], rfl⟩
    ·
      refine zr_aload_n F zd_MD_error_21 rfl ?_
      refine zr_get F 1 13 zd_MD_error_22 (zu_s _ _ _) rfl (by decide) zw_1693 rfl (by rfl) ?_
      refine zr_goto F 29 zd_MD_error_25 (by decide) ?_
      exact zr_iret F hr zd_MD_error_29 (Nat.le_of_ble_eq_true rfl) (Nat.le_of_ble_eq_true rfl) ⟨by rw [sp_MD_error, if_neg h1, if_pos h2], by rw [sw_MD_error, if_neg h1, if_pos h2], rfl⟩
  ·
    refine zr_aload_n F zd_MD_error_9 rfl ?_
    refine zr_get F 1 12 zd_MD_error_10 (zu_s _ _ _) rfl (by decide) zw_1692 rfl (by rfl) ?_
    refine zr_goto F 29 zd_MD_error_13 (by decide) ?_
    exact zr_iret F hr zd_MD_error_29 (Nat.le_of_ble_eq_true rfl) (Nat.le_of_ble_eq_true rfl) ⟨by rw [sp_MD_error, if_pos h1], by rw [sw_MD_error, if_pos h1], rfl⟩
abbrev zb_MD_picked : ByteArray := prog_14_method_28_code
def zy_MD_picked : MethodName := ⟨"OrreryBoxModel", "picked", "()I"⟩
theorem zc_MD_picked : Cond.code zy_MD_picked zb_MD_picked 1 (some .int) ∈ gw := gw_t 2181 (by decide +kernel) rfl
theorem zq_MD_picked : zy_MD_picked.cls ≠ "java/lang/invoke/MethodHandle" ∧ zy_MD_picked.cls ≠ "java/lang/invoke/VarHandle" ∧ (parseMethodDescriptor zy_MD_picked.desc).map (fun d => d.parameters.length) = some 0 := by decide +kernel
theorem zd_MD_picked_0 : decode zb_MD_picked 0 = .ok (.aload_n 0, 1) := by decide +kernel
theorem zd_MD_picked_1 : decode zb_MD_picked 1 = .ok (.iconst 0, 1) := by decide +kernel
theorem zd_MD_picked_2 : decode zb_MD_picked 2 = .ok (.putfield 80, 3) := by decide +kernel
theorem zd_MD_picked_5 : decode zb_MD_picked 5 = .ok (.aload_n 0, 1) := by decide +kernel
theorem zd_MD_picked_6 : decode zb_MD_picked 6 = .ok (.getfield 58, 3) := by decide +kernel
theorem zd_MD_picked_9 : decode zb_MD_picked 9 = .ok (.ireturn, 1) := by decide +kernel
def sp_MD_picked (w : Int32) (h : Int32) (tp : Int32) (ti : Int32) (th : Int32) (wk : Int32) (wa : Int32) (bg : Int32) (pk : Int32) : Int32 := pk
def sw_MD_picked (tA : Nat → ClassId) (b : Nat) (f : zV) (w : Int32) (h : Int32) (tp : Int32) (ti : Int32) (th : Int32) (wk : Int32) (wa : Int32) (bg : Int32) (pk : Int32) : zV := (zu (f) 1185 (.inr (1, [.int w, .int h, .ref (b + 1186), .int tp, .ref (b + 1187), .ref (b + 1217), .ref (b + 1247), .ref (b + 1277), .ref (b + 1285), .ref (b + 1278), .int ti, .int 0, .int wk, .int wa, .ref (b + 1281), .int bg, .ref (b + 1282), .ref (b + 1283), .ref (b + 1284), .int pk])))
set_option maxHeartbeats 4000000 in
set_option maxRecDepth 100000 in
theorem c_MD_picked (l : Launch) (D : va_G) (tA : Nat → ClassId) (b : Nat) (f : zV) (n : Nat) (w : Int32) (h : Int32) (tp : Int32) (ti : Int32) (th : Int32) (wk : Int32) (wa : Int32) (bg : Int32) (pk : Int32) (hf : f 1185 = some (.inr (1, [.int w, .int h, .ref (b + 1186), .int tp, .ref (b + 1187), .ref (b + 1217), .ref (b + 1247), .ref (b + 1277), .ref (b + 1285), .ref (b + 1278), .int ti, .int th, .int wk, .int wa, .ref (b + 1281), .int bg, .ref (b + 1282), .ref (b + 1283), .ref (b + 1284), .int pk])))  : zM l D tA b zy_MD_picked zb_MD_picked 1 (some .int) 0 0 0 0 [.ref (b + 1185)] f n (zE (some (.int (sp_MD_picked w h tp ti th wk wa bg pk))) (sw_MD_picked tA b f w h tp ti th wk wa bg pk) n) := by
  refine zM_of (own := "OrreryBoxModel") (plainFor_of_name (by decide)) rfl (Nat.le_of_ble_eq_true rfl) (fun p e s m below meth c F hr hin hH => ?_)
  refine zr_aload_n F zd_MD_picked_0 rfl ?_
  refine zr_iconstv (v := 0) F zd_MD_picked_1 (by decide) ?_
  refine zr_put F 1 11 zd_MD_picked_2 hf rfl (by decide) zw_1691 rfl rfl rfl rfl (by exact (Nat.le_of_ble_eq_true rfl)) ?_
  refine zr_norm (zu (f) 1185 (.inr (1, [.int w, .int h, .ref (b + 1186), .int tp, .ref (b + 1187), .ref (b + 1217), .ref (b + 1247), .ref (b + 1277), .ref (b + 1285), .ref (b + 1278), .int ti, .int 0, .int wk, .int wa, .ref (b + 1281), .int bg, .ref (b + 1282), .ref (b + 1283), .ref (b + 1284), .int pk]))) _ (rfl) rfl ?_
  refine zr_aload_n F zd_MD_picked_5 rfl ?_
  refine zr_get F 1 19 zd_MD_picked_6 (zu_s _ _ _) rfl (by decide) zw_1699 rfl (by rfl) ?_
  exact zr_iret F hr zd_MD_picked_9 (Nat.le_of_ble_eq_true rfl) (Nat.le_of_ble_eq_true rfl) ⟨by rw [sp_MD_picked], by rw [sw_MD_picked], rfl⟩
abbrev zb_MD_isPixel : ByteArray := prog_14_method_23_code
def zy_MD_isPixel : MethodName := ⟨"OrreryBoxModel", "isPixel", "(II)Z"⟩
theorem zc_MD_isPixel : Cond.code zy_MD_isPixel zb_MD_isPixel 3 (some .boolean) ∈ gw := gw_t 2165 (by decide +kernel) rfl
theorem zq_MD_isPixel : zy_MD_isPixel.cls ≠ "java/lang/invoke/MethodHandle" ∧ zy_MD_isPixel.cls ≠ "java/lang/invoke/VarHandle" ∧ (parseMethodDescriptor zy_MD_isPixel.desc).map (fun d => d.parameters.length) = some 2 := by decide +kernel
theorem zd_MD_isPixel_0 : decode zb_MD_isPixel 0 = .ok (.iload_n 1, 1) := by decide +kernel
theorem zd_MD_isPixel_1 : decode zb_MD_isPixel 1 = .ok (.ifCond .lt 27, 3) := by decide +kernel
theorem zd_MD_isPixel_4 : decode zb_MD_isPixel 4 = .ok (.iload_n 1, 1) := by decide +kernel
theorem zd_MD_isPixel_5 : decode zb_MD_isPixel 5 = .ok (.aload_n 0, 1) := by decide +kernel
theorem zd_MD_isPixel_6 : decode zb_MD_isPixel 6 = .ok (.getfield 62, 3) := by decide +kernel
theorem zd_MD_isPixel_9 : decode zb_MD_isPixel 9 = .ok (.if_icmp .ge 19, 3) := by decide +kernel
theorem zd_MD_isPixel_12 : decode zb_MD_isPixel 12 = .ok (.iload_n 2, 1) := by decide +kernel
theorem zd_MD_isPixel_13 : decode zb_MD_isPixel 13 = .ok (.ifCond .lt 15, 3) := by decide +kernel
theorem zd_MD_isPixel_16 : decode zb_MD_isPixel 16 = .ok (.iload_n 2, 1) := by decide +kernel
theorem zd_MD_isPixel_17 : decode zb_MD_isPixel 17 = .ok (.aload_n 0, 1) := by decide +kernel
theorem zd_MD_isPixel_18 : decode zb_MD_isPixel 18 = .ok (.getfield 65, 3) := by decide +kernel
theorem zd_MD_isPixel_21 : decode zb_MD_isPixel 21 = .ok (.if_icmp .ge 7, 3) := by decide +kernel
theorem zd_MD_isPixel_24 : decode zb_MD_isPixel 24 = .ok (.iconst 1, 1) := by decide +kernel
theorem zd_MD_isPixel_25 : decode zb_MD_isPixel 25 = .ok (.goto 4, 3) := by decide +kernel
theorem zd_MD_isPixel_28 : decode zb_MD_isPixel 28 = .ok (.iconst 0, 1) := by decide +kernel
theorem zd_MD_isPixel_29 : decode zb_MD_isPixel 29 = .ok (.ireturn, 1) := by decide +kernel
def sp_MD_isPixel (x : Int32) (y : Int32) (w : Int32) (h : Int32) (tp : Int32) (ti : Int32) (th : Int32) (wk : Int32) (wa : Int32) (bg : Int32) (pk : Int32) : Int32 := (if x < 0 then 0 else (if w ≤ x then 0 else (if y < 0 then 0 else (if h ≤ y then 0 else 1))))
set_option maxHeartbeats 4000000 in
set_option maxRecDepth 100000 in
theorem c_MD_isPixel (l : Launch) (D : va_G) (tA : Nat → ClassId) (b : Nat) (f : zV) (n : Nat) (x : Int32) (y : Int32) (w : Int32) (h : Int32) (tp : Int32) (ti : Int32) (th : Int32) (wk : Int32) (wa : Int32) (bg : Int32) (pk : Int32) (hf : f 1185 = some (.inr (1, [.int w, .int h, .ref (b + 1186), .int tp, .ref (b + 1187), .ref (b + 1217), .ref (b + 1247), .ref (b + 1277), .ref (b + 1285), .ref (b + 1278), .int ti, .int th, .int wk, .int wa, .ref (b + 1281), .int bg, .ref (b + 1282), .ref (b + 1283), .ref (b + 1284), .int pk])))  : zM l D tA b zy_MD_isPixel zb_MD_isPixel 3 (some .boolean) 0 0 0 0 [.ref (b + 1185), .int x, .int y] f n (zE (some (.int (sp_MD_isPixel x y w h tp ti th wk wa bg pk))) f n) := by
  refine zM_of (own := "OrreryBoxModel") (plainFor_of_name (by decide)) rfl (Nat.le_of_ble_eq_true rfl) (fun p e s m below meth c F hr hin hH => ?_)
  refine zr_iload_n F zd_MD_isPixel_0 rfl ?_
  refine zr_if_lt F 28 zd_MD_isPixel_1 (by decide) (fun h1 => ?_) (fun h1 => ?_)
  ·
    refine zr_iconstv (v := 0) F zd_MD_isPixel_28 (by decide) ?_
    exact zr_zret F hr rfl zd_MD_isPixel_29 (Nat.le_of_ble_eq_true rfl) (Nat.le_of_ble_eq_true rfl) ⟨by rw [sp_MD_isPixel, if_pos h1], rfl, rfl⟩
  ·
    refine zr_iload_n F zd_MD_isPixel_4 rfl ?_
    refine zr_aload_n F zd_MD_isPixel_5 rfl ?_
    refine zr_get F 1 0 zd_MD_isPixel_6 hf rfl (by decide) zw_1680 rfl (by rfl) ?_
    refine zr_icmp_ge F 28 zd_MD_isPixel_9 (by decide) (fun h2 => ?_) (fun h2 => ?_)
    ·
      refine zr_iconstv (v := 0) F zd_MD_isPixel_28 (by decide) ?_
      exact zr_zret F hr rfl zd_MD_isPixel_29 (Nat.le_of_ble_eq_true rfl) (Nat.le_of_ble_eq_true rfl) ⟨by rw [sp_MD_isPixel, if_neg h1, if_pos h2], rfl, rfl⟩
    ·
      refine zr_iload_n F zd_MD_isPixel_12 rfl ?_
      refine zr_if_lt F 28 zd_MD_isPixel_13 (by decide) (fun h3 => ?_) (fun h3 => ?_)
      ·
        refine zr_iconstv (v := 0) F zd_MD_isPixel_28 (by decide) ?_
        exact zr_zret F hr rfl zd_MD_isPixel_29 (Nat.le_of_ble_eq_true rfl) (Nat.le_of_ble_eq_true rfl) ⟨by rw [sp_MD_isPixel, if_neg h1, if_neg h2, if_pos h3], rfl, rfl⟩
      ·
        refine zr_iload_n F zd_MD_isPixel_16 rfl ?_
        refine zr_aload_n F zd_MD_isPixel_17 rfl ?_
        refine zr_get F 1 1 zd_MD_isPixel_18 hf rfl (by decide) zw_1681 rfl (by rfl) ?_
        refine zr_icmp_ge F 28 zd_MD_isPixel_21 (by decide) (fun h4 => ?_) (fun h4 => ?_)
        ·
          refine zr_iconstv (v := 0) F zd_MD_isPixel_28 (by decide) ?_
          exact zr_zret F hr rfl zd_MD_isPixel_29 (Nat.le_of_ble_eq_true rfl) (Nat.le_of_ble_eq_true rfl) ⟨by rw [sp_MD_isPixel, if_neg h1, if_neg h2, if_neg h3, if_pos h4], rfl, rfl⟩
        ·
          refine zr_iconstv (v := 1) F zd_MD_isPixel_24 (by decide) ?_
          refine zr_goto F 29 zd_MD_isPixel_25 (by decide) ?_
          exact zr_zret F hr rfl zd_MD_isPixel_29 (Nat.le_of_ble_eq_true rfl) (Nat.le_of_ble_eq_true rfl) ⟨by rw [sp_MD_isPixel, if_neg h1, if_neg h2, if_neg h3, if_neg h4], rfl, rfl⟩
abbrev zb_MD_across : ByteArray := prog_14_method_19_code
def zy_MD_across : MethodName := ⟨"OrreryBoxModel", "across", "()I"⟩
theorem zc_MD_across : Cond.code zy_MD_across zb_MD_across 1 (some .int) ∈ gw := gw_t 2050 (by decide +kernel) rfl
theorem zq_MD_across : zy_MD_across.cls ≠ "java/lang/invoke/MethodHandle" ∧ zy_MD_across.cls ≠ "java/lang/invoke/VarHandle" ∧ (parseMethodDescriptor zy_MD_across.desc).map (fun d => d.parameters.length) = some 0 := by decide +kernel
theorem zd_MD_across_0 : decode zb_MD_across 0 = .ok (.aload_n 0, 1) := by decide +kernel
theorem zd_MD_across_1 : decode zb_MD_across 1 = .ok (.getfield 62, 3) := by decide +kernel
theorem zd_MD_across_4 : decode zb_MD_across 4 = .ok (.bipush 7, 2) := by decide +kernel
theorem zd_MD_across_6 : decode zb_MD_across 6 = .ok (.iadd, 1) := by decide +kernel
theorem zd_MD_across_7 : decode zb_MD_across 7 = .ok (.bipush 8, 2) := by decide +kernel
theorem zd_MD_across_9 : decode zb_MD_across 9 = .ok (.idiv, 1) := by decide +kernel
theorem zd_MD_across_10 : decode zb_MD_across 10 = .ok (.ireturn, 1) := by decide +kernel
def sp_MD_across (w : Int32) (h : Int32) (tp : Int32) (ti : Int32) (th : Int32) (wk : Int32) (wa : Int32) (bg : Int32) (pk : Int32) : Int32 := ((w + 7) / 8)
set_option maxHeartbeats 4000000 in
set_option maxRecDepth 100000 in
theorem c_MD_across (l : Launch) (D : va_G) (tA : Nat → ClassId) (b : Nat) (f : zV) (n : Nat) (w : Int32) (h : Int32) (tp : Int32) (ti : Int32) (th : Int32) (wk : Int32) (wa : Int32) (bg : Int32) (pk : Int32) (hf : f 1185 = some (.inr (1, [.int w, .int h, .ref (b + 1186), .int tp, .ref (b + 1187), .ref (b + 1217), .ref (b + 1247), .ref (b + 1277), .ref (b + 1285), .ref (b + 1278), .int ti, .int th, .int wk, .int wa, .ref (b + 1281), .int bg, .ref (b + 1282), .ref (b + 1283), .ref (b + 1284), .int pk])))  : zM l D tA b zy_MD_across zb_MD_across 1 (some .int) 0 0 0 0 [.ref (b + 1185)] f n (zE (some (.int (sp_MD_across w h tp ti th wk wa bg pk))) f n) := by
  refine zM_of (own := "OrreryBoxModel") (plainFor_of_name (by decide)) rfl (Nat.le_of_ble_eq_true rfl) (fun p e s m below meth c F hr hin hH => ?_)
  refine zr_aload_n F zd_MD_across_0 rfl ?_
  refine zr_get F 1 0 zd_MD_across_1 hf rfl (by decide) zw_1680 rfl (by rfl) ?_
  refine zr_bipushv (v := 7) F zd_MD_across_4 (by decide) ?_
  refine zr_iadd F zd_MD_across_6 ?_
  refine zr_bipushv (v := 8) F zd_MD_across_7 (by decide) ?_
  refine zr_idiv F zd_MD_across_9 (by decide) ?_
  exact zr_iret F hr zd_MD_across_10 (Nat.le_of_ble_eq_true rfl) (Nat.le_of_ble_eq_true rfl) ⟨by rw [sp_MD_across], rfl, rfl⟩
