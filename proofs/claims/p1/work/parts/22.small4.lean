theorem zx_cg {v : Int32} {z M : Nat} (hz : z ≤ M) (hM : M < 2 ^ 30) (h0 : ¬ v < 0) (h : ¬ nI z ≤ v) : vp_in v M := by
  obtain ⟨j, hj, rfl⟩ := nI_of h0
  rw [nI_leI (by omega) hj] at h
  exact vp_in_nI (by omega) (by omega)
theorem zx_ch {z M t : Nat} (hz : z ≤ M) (ht : t ≤ M) (hM : M < 2 ^ 30) (h : ¬ nI z ≤ nI t) : vp_in (nI t) M := by
  rw [nI_leI (by omega) (by omega)] at h
  exact vp_in_nI (by omega) (by omega)
abbrev zb_JMath_abs : ByteArray := prog_21_method_59_code
def zy_JMath_abs : MethodName := ⟨"java/lang/Math", "abs", "(I)I"⟩
theorem zc_JMath_abs : Cond.code zy_JMath_abs zb_JMath_abs 1 (some .int) ∈ gw := gw_t 933 (by decide +kernel) rfl
theorem zq_JMath_abs : zy_JMath_abs.cls ≠ "java/lang/invoke/MethodHandle" ∧ zy_JMath_abs.cls ≠ "java/lang/invoke/VarHandle" ∧ (parseMethodDescriptor zy_JMath_abs.desc).map (fun d => d.parameters.length) = some 1 := by decide +kernel
theorem zd_JMath_abs_0 : decode zb_JMath_abs 0 = .ok (.iload_n 0, 1) := by decide +kernel
theorem zd_JMath_abs_1 : decode zb_JMath_abs 1 = .ok (.ifCond .ge 8, 3) := by decide +kernel
theorem zd_JMath_abs_4 : decode zb_JMath_abs 4 = .ok (.iload_n 0, 1) := by decide +kernel
theorem zd_JMath_abs_5 : decode zb_JMath_abs 5 = .ok (.ineg, 1) := by decide +kernel
theorem zd_JMath_abs_6 : decode zb_JMath_abs 6 = .ok (.goto 4, 3) := by decide +kernel
theorem zd_JMath_abs_9 : decode zb_JMath_abs 9 = .ok (.iload_n 0, 1) := by decide +kernel
theorem zd_JMath_abs_10 : decode zb_JMath_abs 10 = .ok (.ireturn, 1) := by decide +kernel
def sp_JMath_abs (x : Int32) : Int32 := (if 0 ≤ x then x else (-x))
set_option maxHeartbeats 4000000 in
set_option maxRecDepth 100000 in
theorem c_JMath_abs (l : Launch) (D : va_G) (tA : Nat → ClassId) (b : Nat) (f : zV) (n : Nat) (x : Int32)   : zM l D tA b zy_JMath_abs zb_JMath_abs 1 (some .int) 0 0 0 0 [.int x] f n (zE (some (.int (sp_JMath_abs x))) f n) := by
  refine zM_of (own := "java/lang/Math") (by decide +kernel) rfl (Nat.le_of_ble_eq_true rfl) (fun p e s m below meth c F hr hin hH => ?_)
  refine zr_iload_n F zd_JMath_abs_0 rfl ?_
  refine zr_if_ge F 9 zd_JMath_abs_1 (by decide) (fun h1 => ?_) (fun h1 => ?_)
  ·
    refine zr_iload_n F zd_JMath_abs_9 rfl ?_
    exact zr_iret F hr zd_JMath_abs_10 (Nat.le_of_ble_eq_true rfl) (Nat.le_of_ble_eq_true rfl) ⟨by rw [sp_JMath_abs, if_pos h1], rfl, rfl⟩
  ·
    refine zr_iload_n F zd_JMath_abs_4 rfl ?_
    refine zr_ineg F zd_JMath_abs_5 ?_
    refine zr_goto F 10 zd_JMath_abs_6 (by decide) ?_
    exact zr_iret F hr zd_JMath_abs_10 (Nat.le_of_ble_eq_true rfl) (Nat.le_of_ble_eq_true rfl) ⟨by rw [sp_JMath_abs, if_neg h1], rfl, rfl⟩
abbrev zb_XPacker_nearestOf : ByteArray := prog_5_method_8_code
def zy_XPacker_nearestOf : MethodName := ⟨"OrreryBox$Packer", "nearestOf", "(III)I"⟩
theorem zc_XPacker_nearestOf : Cond.code zy_XPacker_nearestOf zb_XPacker_nearestOf 6 (some .int) ∈ gw := gw_t 930 (by decide +kernel) rfl
theorem zq_XPacker_nearestOf : zy_XPacker_nearestOf.cls ≠ "java/lang/invoke/MethodHandle" ∧ zy_XPacker_nearestOf.cls ≠ "java/lang/invoke/VarHandle" ∧ (parseMethodDescriptor zy_XPacker_nearestOf.desc).map (fun d => d.parameters.length) = some 3 := by decide +kernel
theorem zd_XPacker_nearestOf_0 : decode zb_XPacker_nearestOf 0 = .ok (.iload_n 1, 1) := by decide +kernel
theorem zd_XPacker_nearestOf_1 : decode zb_XPacker_nearestOf 1 = .ok (.iload_n 2, 1) := by decide +kernel
theorem zd_XPacker_nearestOf_2 : decode zb_XPacker_nearestOf 2 = .ok (.isub, 1) := by decide +kernel
theorem zd_XPacker_nearestOf_3 : decode zb_XPacker_nearestOf 3 = .ok (.invokestatic 94, 3) := by decide +kernel
theorem zd_XPacker_nearestOf_6 : decode zb_XPacker_nearestOf 6 = .ok (.istore_n 3, 1) := by decide +kernel
theorem zd_XPacker_nearestOf_7 : decode zb_XPacker_nearestOf 7 = .ok (.iload_n 0, 1) := by decide +kernel
theorem zd_XPacker_nearestOf_8 : decode zb_XPacker_nearestOf 8 = .ok (.iload_n 2, 1) := by decide +kernel
theorem zd_XPacker_nearestOf_9 : decode zb_XPacker_nearestOf 9 = .ok (.isub, 1) := by decide +kernel
theorem zd_XPacker_nearestOf_10 : decode zb_XPacker_nearestOf 10 = .ok (.invokestatic 94, 3) := by decide +kernel
theorem zd_XPacker_nearestOf_13 : decode zb_XPacker_nearestOf 13 = .ok (.istore 4, 2) := by decide +kernel
theorem zd_XPacker_nearestOf_15 : decode zb_XPacker_nearestOf 15 = .ok (.iload_n 0, 1) := by decide +kernel
theorem zd_XPacker_nearestOf_16 : decode zb_XPacker_nearestOf 16 = .ok (.iload_n 1, 1) := by decide +kernel
theorem zd_XPacker_nearestOf_17 : decode zb_XPacker_nearestOf 17 = .ok (.iadd, 1) := by decide +kernel
theorem zd_XPacker_nearestOf_18 : decode zb_XPacker_nearestOf 18 = .ok (.iconst 2, 1) := by decide +kernel
theorem zd_XPacker_nearestOf_19 : decode zb_XPacker_nearestOf 19 = .ok (.iload_n 2, 1) := by decide +kernel
theorem zd_XPacker_nearestOf_20 : decode zb_XPacker_nearestOf 20 = .ok (.imul, 1) := by decide +kernel
theorem zd_XPacker_nearestOf_21 : decode zb_XPacker_nearestOf 21 = .ok (.isub, 1) := by decide +kernel
theorem zd_XPacker_nearestOf_22 : decode zb_XPacker_nearestOf 22 = .ok (.invokestatic 94, 3) := by decide +kernel
theorem zd_XPacker_nearestOf_25 : decode zb_XPacker_nearestOf 25 = .ok (.istore 5, 2) := by decide +kernel
theorem zd_XPacker_nearestOf_27 : decode zb_XPacker_nearestOf 27 = .ok (.iload_n 3, 1) := by decide +kernel
theorem zd_XPacker_nearestOf_28 : decode zb_XPacker_nearestOf 28 = .ok (.iload 4, 2) := by decide +kernel
theorem zd_XPacker_nearestOf_30 : decode zb_XPacker_nearestOf 30 = .ok (.if_icmp .gt 11, 3) := by decide +kernel
theorem zd_XPacker_nearestOf_33 : decode zb_XPacker_nearestOf 33 = .ok (.iload_n 3, 1) := by decide +kernel
theorem zd_XPacker_nearestOf_34 : decode zb_XPacker_nearestOf 34 = .ok (.iload 5, 2) := by decide +kernel
theorem zd_XPacker_nearestOf_36 : decode zb_XPacker_nearestOf 36 = .ok (.if_icmp .gt 5, 3) := by decide +kernel
theorem zd_XPacker_nearestOf_39 : decode zb_XPacker_nearestOf 39 = .ok (.iload_n 0, 1) := by decide +kernel
theorem zd_XPacker_nearestOf_40 : decode zb_XPacker_nearestOf 40 = .ok (.ireturn, 1) := by decide +kernel
theorem zd_XPacker_nearestOf_41 : decode zb_XPacker_nearestOf 41 = .ok (.iload 4, 2) := by decide +kernel
theorem zd_XPacker_nearestOf_43 : decode zb_XPacker_nearestOf 43 = .ok (.iload 5, 2) := by decide +kernel
theorem zd_XPacker_nearestOf_45 : decode zb_XPacker_nearestOf 45 = .ok (.if_icmp .gt 7, 3) := by decide +kernel
theorem zd_XPacker_nearestOf_48 : decode zb_XPacker_nearestOf 48 = .ok (.iload_n 1, 1) := by decide +kernel
theorem zd_XPacker_nearestOf_49 : decode zb_XPacker_nearestOf 49 = .ok (.goto 4, 3) := by decide +kernel
theorem zd_XPacker_nearestOf_52 : decode zb_XPacker_nearestOf 52 = .ok (.iload_n 2, 1) := by decide +kernel
theorem zd_XPacker_nearestOf_53 : decode zb_XPacker_nearestOf 53 = .ok (.ireturn, 1) := by decide +kernel
theorem zw_931 : (Jvm.Cond.methodLink "OrreryBox$Packer" (94 : Nat) ({ cls := "java/lang/Math", name := "abs", desc := "(I)I" } : Jvm.MethodName)) ∈ gw := gw_t 931 (by decide +kernel) rfl
theorem zw_932 : (Jvm.Cond.static ({ cls := "java/lang/Math", name := "abs", desc := "(I)I" } : Jvm.MethodName)) ∈ gw := gw_t 932 (by decide +kernel) rfl
theorem zs_XPacker_94 : zwS "OrreryBox$Packer" 94 zy_JMath_abs zb_JMath_abs 1 (some .int) := ⟨zw_931, zw_932, zw_4, zc_JMath_abs⟩
def sp_XPacker_nearestOf (x : Int32) (y : Int32) (z : Int32) : Int32 := (if (sp_JMath_abs ((x - z))) < (sp_JMath_abs ((y - z))) then (if (sp_JMath_abs (((x + y) - (2 * z)))) < (sp_JMath_abs ((x - z))) then z else y) else (if (sp_JMath_abs (((x + y) - (2 * z)))) < (sp_JMath_abs ((y - z))) then (if (sp_JMath_abs (((x + y) - (2 * z)))) < (sp_JMath_abs ((x - z))) then z else y) else x))
set_option maxHeartbeats 4000000 in
set_option maxRecDepth 100000 in
theorem c_XPacker_nearestOf (l : Launch) (D : va_G) (tA : Nat → ClassId) (b : Nat) (f : zV) (n : Nat) (x : Int32) (y : Int32) (z : Int32)   : zM l D tA b zy_XPacker_nearestOf zb_XPacker_nearestOf 6 (some .int) 1 20 0 0 [.int x, .int y, .int z] f n (zE (some (.int (sp_XPacker_nearestOf x y z))) f n) := by
  refine zM_of (own := "OrreryBox$Packer") (plainFor_of_name (by decide)) rfl (Nat.le_of_ble_eq_true rfl) (fun p e s m below meth c F hr hin hH => ?_)
  refine zr_iload_n F zd_XPacker_nearestOf_0 rfl ?_
  refine zr_iload_n F zd_XPacker_nearestOf_1 rfl ?_
  refine zr_isub F zd_XPacker_nearestOf_2 ?_
  refine zr_callS1 F (c_JMath_abs l D tA b _ _ ((y - z)) ) zd_XPacker_nearestOf_3 zs_XPacker_94 zq_JMath_abs rfl rfl ⟨(Nat.le_of_ble_eq_true rfl), (Nat.le_of_ble_eq_true rfl)⟩ (Nat.le_of_ble_eq_true rfl) ⟨(Nat.le_of_ble_eq_true rfl), (Nat.le_of_ble_eq_true rfl)⟩ ?_
  refine zr_istore_n F zd_XPacker_nearestOf_6 (by decide) ?_
  refine zr_iload_n F zd_XPacker_nearestOf_7 rfl ?_
  refine zr_iload_n F zd_XPacker_nearestOf_8 rfl ?_
  refine zr_isub F zd_XPacker_nearestOf_9 ?_
  refine zr_callS1 F (c_JMath_abs l D tA b _ _ ((x - z)) ) zd_XPacker_nearestOf_10 zs_XPacker_94 zq_JMath_abs rfl rfl ⟨(Nat.le_of_ble_eq_true rfl), (Nat.le_of_ble_eq_true rfl)⟩ (Nat.le_of_ble_eq_true rfl) ⟨(Nat.le_of_ble_eq_true rfl), (Nat.le_of_ble_eq_true rfl)⟩ ?_
  refine zr_istore F zd_XPacker_nearestOf_13 (by decide) ?_
  refine zr_iload_n F zd_XPacker_nearestOf_15 rfl ?_
  refine zr_iload_n F zd_XPacker_nearestOf_16 rfl ?_
  refine zr_iadd F zd_XPacker_nearestOf_17 ?_
  refine zr_iconstv (v := 2) F zd_XPacker_nearestOf_18 (by decide) ?_
  refine zr_iload_n F zd_XPacker_nearestOf_19 rfl ?_
  refine zr_imul F zd_XPacker_nearestOf_20 ?_
  refine zr_isub F zd_XPacker_nearestOf_21 ?_
  refine zr_callS1 F (c_JMath_abs l D tA b _ _ (((x + y) - (2 * z))) ) zd_XPacker_nearestOf_22 zs_XPacker_94 zq_JMath_abs rfl rfl ⟨(Nat.le_of_ble_eq_true rfl), (Nat.le_of_ble_eq_true rfl)⟩ (Nat.le_of_ble_eq_true rfl) ⟨(Nat.le_of_ble_eq_true rfl), (Nat.le_of_ble_eq_true rfl)⟩ ?_
  refine zr_istore F zd_XPacker_nearestOf_25 (by decide) ?_
  refine zr_iload_n F zd_XPacker_nearestOf_27 rfl ?_
  refine zr_iload F zd_XPacker_nearestOf_28 rfl ?_
  refine zr_icmp_gt F 41 zd_XPacker_nearestOf_30 (by decide) (fun h1 => ?_) (fun h1 => ?_)
  ·
    refine zr_iload F zd_XPacker_nearestOf_41 rfl ?_
    refine zr_iload F zd_XPacker_nearestOf_43 rfl ?_
    refine zr_icmp_gt F 52 zd_XPacker_nearestOf_45 (by decide) (fun h2 => ?_) (fun h2 => ?_)
    ·
      refine zr_iload_n F zd_XPacker_nearestOf_52 rfl ?_
      exact zr_iret F hr zd_XPacker_nearestOf_53 (Nat.le_of_ble_eq_true rfl) (Nat.le_of_ble_eq_true rfl) ⟨by rw [sp_XPacker_nearestOf, if_pos h1, if_pos h2], rfl, rfl⟩
    ·
      refine zr_iload_n F zd_XPacker_nearestOf_48 rfl ?_
      refine zr_goto F 53 zd_XPacker_nearestOf_49 (by decide) ?_
      exact zr_iret F hr zd_XPacker_nearestOf_53 (Nat.le_of_ble_eq_true rfl) (Nat.le_of_ble_eq_true rfl) ⟨by rw [sp_XPacker_nearestOf, if_pos h1, if_neg h2], rfl, rfl⟩
  ·
    refine zr_iload_n F zd_XPacker_nearestOf_33 rfl ?_
    refine zr_iload F zd_XPacker_nearestOf_34 rfl ?_
    refine zr_icmp_gt F 41 zd_XPacker_nearestOf_36 (by decide) (fun h3 => ?_) (fun h3 => ?_)
    ·
      refine zr_iload F zd_XPacker_nearestOf_41 rfl ?_
      refine zr_iload F zd_XPacker_nearestOf_43 rfl ?_
      refine zr_icmp_gt F 52 zd_XPacker_nearestOf_45 (by decide) (fun h4 => ?_) (fun h4 => ?_)
      ·
        refine zr_iload_n F zd_XPacker_nearestOf_52 rfl ?_
        exact zr_iret F hr zd_XPacker_nearestOf_53 (Nat.le_of_ble_eq_true rfl) (Nat.le_of_ble_eq_true rfl) ⟨by rw [sp_XPacker_nearestOf, if_neg h1, if_pos h3, if_pos h4], rfl, rfl⟩
      ·
        refine zr_iload_n F zd_XPacker_nearestOf_48 rfl ?_
        refine zr_goto F 53 zd_XPacker_nearestOf_49 (by decide) ?_
        exact zr_iret F hr zd_XPacker_nearestOf_53 (Nat.le_of_ble_eq_true rfl) (Nat.le_of_ble_eq_true rfl) ⟨by rw [sp_XPacker_nearestOf, if_neg h1, if_pos h3, if_neg h4], rfl, rfl⟩
    ·
      refine zr_iload_n F zd_XPacker_nearestOf_39 rfl ?_
      exact zr_iret F hr zd_XPacker_nearestOf_40 (Nat.le_of_ble_eq_true rfl) (Nat.le_of_ble_eq_true rfl) ⟨by rw [sp_XPacker_nearestOf, if_neg h1, if_neg h3], rfl, rfl⟩
abbrev zb_XPacker_guess : ByteArray := prog_5_method_7_code
def zy_XPacker_guess : MethodName := ⟨"OrreryBox$Packer", "guess", "(IIII)I"⟩
theorem zc_XPacker_guess : Cond.code zy_XPacker_guess zb_XPacker_guess 4 (some .int) ∈ gw := gw_t 927 (by decide +kernel) rfl
theorem zq_XPacker_guess : zy_XPacker_guess.cls ≠ "java/lang/invoke/MethodHandle" ∧ zy_XPacker_guess.cls ≠ "java/lang/invoke/VarHandle" ∧ (parseMethodDescriptor zy_XPacker_guess.desc).map (fun d => d.parameters.length) = some 4 := by decide +kernel
theorem zd_XPacker_guess_0 : decode zb_XPacker_guess 0 = .ok (.iload_n 0, 1) := by decide +kernel
theorem zd_XPacker_guess_1 : decode zb_XPacker_guess 1 = .ok (.tableswitch 43 0 3 #[31, 33, 35, 37], 31) := by decide +kernel
theorem zd_XPacker_guess_32 : decode zb_XPacker_guess 32 = .ok (.iconst 0, 1) := by decide +kernel
theorem zd_XPacker_guess_33 : decode zb_XPacker_guess 33 = .ok (.ireturn, 1) := by decide +kernel
theorem zd_XPacker_guess_34 : decode zb_XPacker_guess 34 = .ok (.iload_n 1, 1) := by decide +kernel
theorem zd_XPacker_guess_35 : decode zb_XPacker_guess 35 = .ok (.ireturn, 1) := by decide +kernel
theorem zd_XPacker_guess_36 : decode zb_XPacker_guess 36 = .ok (.iload_n 2, 1) := by decide +kernel
theorem zd_XPacker_guess_37 : decode zb_XPacker_guess 37 = .ok (.ireturn, 1) := by decide +kernel
theorem zd_XPacker_guess_38 : decode zb_XPacker_guess 38 = .ok (.iload_n 1, 1) := by decide +kernel
theorem zd_XPacker_guess_39 : decode zb_XPacker_guess 39 = .ok (.iload_n 2, 1) := by decide +kernel
theorem zd_XPacker_guess_40 : decode zb_XPacker_guess 40 = .ok (.iadd, 1) := by decide +kernel
theorem zd_XPacker_guess_41 : decode zb_XPacker_guess 41 = .ok (.iconst 2, 1) := by decide +kernel
theorem zd_XPacker_guess_42 : decode zb_XPacker_guess 42 = .ok (.idiv, 1) := by decide +kernel
theorem zd_XPacker_guess_43 : decode zb_XPacker_guess 43 = .ok (.ireturn, 1) := by decide +kernel
theorem zd_XPacker_guess_44 : decode zb_XPacker_guess 44 = .ok (.iload_n 1, 1) := by decide +kernel
theorem zd_XPacker_guess_45 : decode zb_XPacker_guess 45 = .ok (.iload_n 2, 1) := by decide +kernel
theorem zd_XPacker_guess_46 : decode zb_XPacker_guess 46 = .ok (.iload_n 3, 1) := by decide +kernel
theorem zd_XPacker_guess_47 : decode zb_XPacker_guess 47 = .ok (.invokestatic 90, 3) := by decide +kernel
theorem zd_XPacker_guess_50 : decode zb_XPacker_guess 50 = .ok (.ireturn, 1) := by decide +kernel
theorem zw_928 : (Jvm.Cond.methodLink "OrreryBox$Packer" (90 : Nat) ({ cls := "OrreryBox$Packer", name := "nearestOf", desc := "(III)I" } : Jvm.MethodName)) ∈ gw := gw_t 928 (by decide +kernel) rfl
theorem zw_929 : (Jvm.Cond.static ({ cls := "OrreryBox$Packer", name := "nearestOf", desc := "(III)I" } : Jvm.MethodName)) ∈ gw := gw_t 929 (by decide +kernel) rfl
theorem zs_XPacker_90 : zwS "OrreryBox$Packer" 90 zy_XPacker_nearestOf zb_XPacker_nearestOf 6 (some .int) := ⟨zw_928, zw_929, zw_3, zc_XPacker_nearestOf⟩
def sp_XPacker_guess (k : Int32) (x : Int32) (y : Int32) (z : Int32) : Int32 := (if k = 0 then 0 else (if k = 1 then x else (if k = 2 then y else (if k = 3 then ((x + y) / 2) else (sp_XPacker_nearestOf (x) (y) (z))))))
set_option maxHeartbeats 4000000 in
set_option maxRecDepth 100000 in
theorem c_XPacker_guess (l : Launch) (D : va_G) (tA : Nat → ClassId) (b : Nat) (f : zV) (n : Nat) (k : Int32) (x : Int32) (y : Int32) (z : Int32)   : zM l D tA b zy_XPacker_guess zb_XPacker_guess 4 (some .int) 2 45 0 0 [.int k, .int x, .int y, .int z] f n (zE (some (.int (sp_XPacker_guess k x y z))) f n) := by
  refine zM_of (own := "OrreryBox$Packer") (plainFor_of_name (by decide)) rfl (Nat.le_of_ble_eq_true rfl) (fun p e s m below meth c F hr hin hH => ?_)
  refine zr_iload_n F zd_XPacker_guess_0 rfl ?_
  by_cases h1_0 : k = 0
  ·
    refine zr_tableIn F 32 zd_XPacker_guess_1 (by rw [h1_0]; decide) (by rw [h1_0]; decide) (by rw [h1_0]; rfl) (by decide) ?_
    refine zr_iconstv (v := 0) F zd_XPacker_guess_32 (by decide) ?_
    exact zr_iret F hr zd_XPacker_guess_33 (Nat.le_of_ble_eq_true rfl) (Nat.le_of_ble_eq_true rfl) ⟨by rw [sp_XPacker_guess, if_pos h1_0], rfl, rfl⟩
  ·
    by_cases h1_1 : k = 1
    ·
      refine zr_tableIn F 34 zd_XPacker_guess_1 (by rw [h1_1]; decide) (by rw [h1_1]; decide) (by rw [h1_1]; rfl) (by decide) ?_
      refine zr_iload_n F zd_XPacker_guess_34 rfl ?_
      exact zr_iret F hr zd_XPacker_guess_35 (Nat.le_of_ble_eq_true rfl) (Nat.le_of_ble_eq_true rfl) ⟨by rw [sp_XPacker_guess, if_neg h1_0, if_pos h1_1], rfl, rfl⟩
    ·
      by_cases h1_2 : k = 2
      ·
        refine zr_tableIn F 36 zd_XPacker_guess_1 (by rw [h1_2]; decide) (by rw [h1_2]; decide) (by rw [h1_2]; rfl) (by decide) ?_
        refine zr_iload_n F zd_XPacker_guess_36 rfl ?_
        exact zr_iret F hr zd_XPacker_guess_37 (Nat.le_of_ble_eq_true rfl) (Nat.le_of_ble_eq_true rfl) ⟨by rw [sp_XPacker_guess, if_neg h1_0, if_neg h1_1, if_pos h1_2], rfl, rfl⟩
      ·
        by_cases h1_3 : k = 3
        ·
          refine zr_tableIn F 38 zd_XPacker_guess_1 (by rw [h1_3]; decide) (by rw [h1_3]; decide) (by rw [h1_3]; rfl) (by decide) ?_
          refine zr_iload_n F zd_XPacker_guess_38 rfl ?_
          refine zr_iload_n F zd_XPacker_guess_39 rfl ?_
          refine zr_iadd F zd_XPacker_guess_40 ?_
          refine zr_iconstv (v := 2) F zd_XPacker_guess_41 (by decide) ?_
          refine zr_idiv F zd_XPacker_guess_42 (by decide) ?_
          exact zr_iret F hr zd_XPacker_guess_43 (Nat.le_of_ble_eq_true rfl) (Nat.le_of_ble_eq_true rfl) ⟨by rw [sp_XPacker_guess, if_neg h1_0, if_neg h1_1, if_neg h1_2, if_pos h1_3], rfl, rfl⟩
        ·
          refine zr_tableOut F 44 zd_XPacker_guess_1 (zx_out k 0 3 (by decide) (by decide) (by decide) (by omega) (fun j hj => by match j, hj with | 0, _ => exact h1_0 | 1, _ => exact h1_1 | 2, _ => exact h1_2 | 3, _ => exact h1_3 | j + 4, hq => exact absurd hq (by omega))) (by decide) ?_
          refine zr_iload_n F zd_XPacker_guess_44 rfl ?_
          refine zr_iload_n F zd_XPacker_guess_45 rfl ?_
          refine zr_iload_n F zd_XPacker_guess_46 rfl ?_
          refine zr_callS1 F (c_XPacker_nearestOf l D tA b _ _ (x) (y) (z) ) zd_XPacker_guess_47 zs_XPacker_90 zq_XPacker_nearestOf rfl rfl ⟨(Nat.le_of_ble_eq_true rfl), (Nat.le_of_ble_eq_true rfl)⟩ (Nat.le_of_ble_eq_true rfl) ⟨(Nat.le_of_ble_eq_true rfl), (Nat.le_of_ble_eq_true rfl)⟩ ?_
          exact zr_iret F hr zd_XPacker_guess_50 (Nat.le_of_ble_eq_true rfl) (Nat.le_of_ble_eq_true rfl) ⟨by rw [sp_XPacker_guess, if_neg h1_0, if_neg h1_1, if_neg h1_2, if_neg h1_3], rfl, rfl⟩
abbrev zb_MPainter_div : ByteArray := prog_16_method_2_code
def zy_MPainter_div : MethodName := ⟨"OrreryBoxModel$Painter", "div", "(JJ)J"⟩
theorem zc_MPainter_div : Cond.code zy_MPainter_div zb_MPainter_div 4 (some .long) ∈ gw := gw_t 2028 (by decide +kernel) rfl
theorem zq_MPainter_div : zy_MPainter_div.cls ≠ "java/lang/invoke/MethodHandle" ∧ zy_MPainter_div.cls ≠ "java/lang/invoke/VarHandle" ∧ (parseMethodDescriptor zy_MPainter_div.desc).map (fun d => d.parameters.length) = some 2 := by decide +kernel
theorem zd_MPainter_div_0 : decode zb_MPainter_div 0 = .ok (.lload_n 0, 1) := by decide +kernel
theorem zd_MPainter_div_1 : decode zb_MPainter_div 1 = .ok (.lload_n 2, 1) := by decide +kernel
theorem zd_MPainter_div_2 : decode zb_MPainter_div 2 = .ok (.invokestatic 74, 3) := by decide +kernel
theorem zd_MPainter_div_5 : decode zb_MPainter_div 5 = .ok (.lreturn, 1) := by decide +kernel
theorem zw_1953 : (Jvm.Cond.methodLink "OrreryBoxModel$Painter" (74 : Nat) ({ cls := "java/lang/Math", name := "floorDiv", desc := "(JJ)J" } : Jvm.MethodName)) ∈ gw := gw_t 1953 (by decide +kernel) rfl
theorem zs_MPainter_74 : zwS "OrreryBoxModel$Painter" 74 zy_JMath_floorDiv zb_JMath_floorDiv 6 (some .long) := ⟨zw_1953, zw_574, zw_4, zc_JMath_floorDiv⟩
def sp_MPainter_div (x : Int64) (y : Int64) : Int64 := (zx_fdiv (x) (y))
set_option maxHeartbeats 4000000 in
set_option maxRecDepth 100000 in
theorem c_MPainter_div (l : Launch) (D : va_G) (tA : Nat → ClassId) (b : Nat) (f : zV) (n : Nat) (x : Int64) (y : Int64)  (hy : ¬ y = 0) : zM l D tA b zy_MPainter_div zb_MPainter_div 4 (some .long) 1 25 0 0 [.long x, .long y] f n (zE (some (.long (sp_MPainter_div x y))) f n) := by
  refine zM_of (own := "OrreryBoxModel$Painter") (plainFor_of_name (by decide)) rfl (Nat.le_of_ble_eq_true rfl) (fun p e s m below meth c F hr hin hH => ?_)
  refine zr_lload_n F zd_MPainter_div_0 rfl ?_
  refine zr_lload_n F zd_MPainter_div_1 rfl ?_
  refine zr_callS1 F (c_JMath_floorDiv l D tA b _ _ (x) (y) hy) zd_MPainter_div_2 zs_MPainter_74 zq_JMath_floorDiv rfl rfl ⟨(Nat.le_of_ble_eq_true rfl), (Nat.le_of_ble_eq_true rfl)⟩ (Nat.le_of_ble_eq_true rfl) ⟨(Nat.le_of_ble_eq_true rfl), (Nat.le_of_ble_eq_true rfl)⟩ ?_
  exact zr_lret F hr zd_MPainter_div_5 (Nat.le_of_ble_eq_true rfl) (Nat.le_of_ble_eq_true rfl) ⟨by rw [sp_MPainter_div], rfl, rfl⟩
abbrev zb_MPainter_mul : ByteArray := prog_16_method_3_code
def zy_MPainter_mul : MethodName := ⟨"OrreryBoxModel$Painter", "mul", "(JJ)J"⟩
theorem zc_MPainter_mul : Cond.code zy_MPainter_mul zb_MPainter_mul 4 (some .long) ∈ gw := gw_t 1951 (by decide +kernel) rfl
theorem zq_MPainter_mul : zy_MPainter_mul.cls ≠ "java/lang/invoke/MethodHandle" ∧ zy_MPainter_mul.cls ≠ "java/lang/invoke/VarHandle" ∧ (parseMethodDescriptor zy_MPainter_mul.desc).map (fun d => d.parameters.length) = some 2 := by decide +kernel
theorem zd_MPainter_mul_0 : decode zb_MPainter_mul 0 = .ok (.lload_n 0, 1) := by decide +kernel
theorem zd_MPainter_mul_1 : decode zb_MPainter_mul 1 = .ok (.lload_n 2, 1) := by decide +kernel
theorem zd_MPainter_mul_2 : decode zb_MPainter_mul 2 = .ok (.lmul, 1) := by decide +kernel
theorem zd_MPainter_mul_3 : decode zb_MPainter_mul 3 = .ok (.ldc2_w 80, 3) := by decide +kernel
theorem zd_MPainter_mul_6 : decode zb_MPainter_mul 6 = .ok (.invokestatic 74, 3) := by decide +kernel
theorem zd_MPainter_mul_9 : decode zb_MPainter_mul 9 = .ok (.lreturn, 1) := by decide +kernel
theorem zw_1952 : (Jvm.Cond.constantLong "OrreryBoxModel$Painter" (80 : Nat) (65536 : Int64)) ∈ gw := gw_t 1952 (by decide +kernel) rfl
def sp_MPainter_mul (x : Int64) (y : Int64) : Int64 := (zx_fdiv ((x * y)) (65536))
set_option maxHeartbeats 4000000 in
set_option maxRecDepth 100000 in
theorem c_MPainter_mul (l : Launch) (D : va_G) (tA : Nat → ClassId) (b : Nat) (f : zV) (n : Nat) (x : Int64) (y : Int64)   : zM l D tA b zy_MPainter_mul zb_MPainter_mul 4 (some .long) 1 25 0 0 [.long x, .long y] f n (zE (some (.long (sp_MPainter_mul x y))) f n) := by
  refine zM_of (own := "OrreryBoxModel$Painter") (plainFor_of_name (by decide)) rfl (Nat.le_of_ble_eq_true rfl) (fun p e s m below meth c F hr hin hH => ?_)
  refine zr_lload_n F zd_MPainter_mul_0 rfl ?_
  refine zr_lload_n F zd_MPainter_mul_1 rfl ?_
  refine zr_lmul F zd_MPainter_mul_2 ?_
  refine zr_ldc2 F zd_MPainter_mul_3 zw_1952 ?_
  refine zr_callS1 F (c_JMath_floorDiv l D tA b _ _ ((x * y)) (65536) (by decide)) zd_MPainter_mul_6 zs_MPainter_74 zq_JMath_floorDiv rfl rfl ⟨(Nat.le_of_ble_eq_true rfl), (Nat.le_of_ble_eq_true rfl)⟩ (Nat.le_of_ble_eq_true rfl) ⟨(Nat.le_of_ble_eq_true rfl), (Nat.le_of_ble_eq_true rfl)⟩ ?_
  exact zr_lret F hr zd_MPainter_mul_9 (Nat.le_of_ble_eq_true rfl) (Nat.le_of_ble_eq_true rfl) ⟨by rw [sp_MPainter_mul], rfl, rfl⟩
abbrev zb_MPainter_bound : ByteArray := prog_16_method_4_code
def zy_MPainter_bound : MethodName := ⟨"OrreryBoxModel$Painter", "bound", "(J)J"⟩
theorem zc_MPainter_bound : Cond.code zy_MPainter_bound zb_MPainter_bound 2 (some .long) ∈ gw := gw_t 2036 (by decide +kernel) rfl
theorem zq_MPainter_bound : zy_MPainter_bound.cls ≠ "java/lang/invoke/MethodHandle" ∧ zy_MPainter_bound.cls ≠ "java/lang/invoke/VarHandle" ∧ (parseMethodDescriptor zy_MPainter_bound.desc).map (fun d => d.parameters.length) = some 1 := by decide +kernel
theorem zd_MPainter_bound_0 : decode zb_MPainter_bound 0 = .ok (.lload_n 0, 1) := by decide +kernel
theorem zd_MPainter_bound_1 : decode zb_MPainter_bound 1 = .ok (.ldc2_w 82, 3) := by decide +kernel
theorem zd_MPainter_bound_4 : decode zb_MPainter_bound 4 = .ok (.lcmp, 1) := by decide +kernel
theorem zd_MPainter_bound_5 : decode zb_MPainter_bound 5 = .ok (.ifCond .ge 9, 3) := by decide +kernel
theorem zd_MPainter_bound_8 : decode zb_MPainter_bound 8 = .ok (.ldc2_w 82, 3) := by decide +kernel
theorem zd_MPainter_bound_11 : decode zb_MPainter_bound 11 = .ok (.goto 18, 3) := by decide +kernel
theorem zd_MPainter_bound_14 : decode zb_MPainter_bound 14 = .ok (.lload_n 0, 1) := by decide +kernel
theorem zd_MPainter_bound_15 : decode zb_MPainter_bound 15 = .ok (.ldc2_w 84, 3) := by decide +kernel
theorem zd_MPainter_bound_18 : decode zb_MPainter_bound 18 = .ok (.lcmp, 1) := by decide +kernel
theorem zd_MPainter_bound_19 : decode zb_MPainter_bound 19 = .ok (.ifCond .le 9, 3) := by decide +kernel
theorem zd_MPainter_bound_22 : decode zb_MPainter_bound 22 = .ok (.ldc2_w 84, 3) := by decide +kernel
theorem zd_MPainter_bound_25 : decode zb_MPainter_bound 25 = .ok (.goto 4, 3) := by decide +kernel
theorem zd_MPainter_bound_28 : decode zb_MPainter_bound 28 = .ok (.lload_n 0, 1) := by decide +kernel
theorem zd_MPainter_bound_29 : decode zb_MPainter_bound 29 = .ok (.lreturn, 1) := by decide +kernel
theorem zw_2037 : (Jvm.Cond.constantLong "OrreryBoxModel$Painter" (82 : Nat) (-16777216 : Int64)) ∈ gw := gw_t 2037 (by decide +kernel) rfl
theorem zw_2038 : (Jvm.Cond.constantLong "OrreryBoxModel$Painter" (84 : Nat) (16777216 : Int64)) ∈ gw := gw_t 2038 (by decide +kernel) rfl
def sp_MPainter_bound (x : Int64) : Int64 := (if 0 ≤ (lg_cmp x (-16777216)) then (if (lg_cmp x 16777216) ≤ 0 then x else 16777216) else (-16777216))
set_option maxHeartbeats 4000000 in
set_option maxRecDepth 100000 in
theorem c_MPainter_bound (l : Launch) (D : va_G) (tA : Nat → ClassId) (b : Nat) (f : zV) (n : Nat) (x : Int64)   : zM l D tA b zy_MPainter_bound zb_MPainter_bound 2 (some .long) 0 0 0 0 [.long x] f n (zE (some (.long (sp_MPainter_bound x))) f n) := by
  refine zM_of (own := "OrreryBoxModel$Painter") (plainFor_of_name (by decide)) rfl (Nat.le_of_ble_eq_true rfl) (fun p e s m below meth c F hr hin hH => ?_)
  refine zr_lload_n F zd_MPainter_bound_0 rfl ?_
  refine zr_ldc2 F zd_MPainter_bound_1 zw_2037 ?_
  refine zr_lcmp F zd_MPainter_bound_4 ?_
  refine zr_if_ge F 14 zd_MPainter_bound_5 (by decide) (fun h1 => ?_) (fun h1 => ?_)
  ·
    refine zr_lload_n F zd_MPainter_bound_14 rfl ?_
    refine zr_ldc2 F zd_MPainter_bound_15 zw_2038 ?_
    refine zr_lcmp F zd_MPainter_bound_18 ?_
    refine zr_if_le F 28 zd_MPainter_bound_19 (by decide) (fun h2 => ?_) (fun h2 => ?_)
    ·
      refine zr_lload_n F zd_MPainter_bound_28 rfl ?_
      exact zr_lret F hr zd_MPainter_bound_29 (Nat.le_of_ble_eq_true rfl) (Nat.le_of_ble_eq_true rfl) ⟨by rw [sp_MPainter_bound, if_pos h1, if_pos h2], rfl, rfl⟩
    ·
      refine zr_ldc2 F zd_MPainter_bound_22 zw_2038 ?_
      refine zr_goto F 29 zd_MPainter_bound_25 (by decide) ?_
      exact zr_lret F hr zd_MPainter_bound_29 (Nat.le_of_ble_eq_true rfl) (Nat.le_of_ble_eq_true rfl) ⟨by rw [sp_MPainter_bound, if_pos h1, if_neg h2], rfl, rfl⟩
  ·
    refine zr_ldc2 F zd_MPainter_bound_8 zw_2037 ?_
    refine zr_goto F 29 zd_MPainter_bound_11 (by decide) ?_
    exact zr_lret F hr zd_MPainter_bound_29 (Nat.le_of_ble_eq_true rfl) (Nat.le_of_ble_eq_true rfl) ⟨by rw [sp_MPainter_bound, if_neg h1], rfl, rfl⟩
abbrev zb_MReader_digit : ByteArray := prog_17_method_8_code
def zy_MReader_digit : MethodName := ⟨"OrreryBoxModel$Reader", "digit", "(I)Z"⟩
theorem zc_MReader_digit : Cond.code zy_MReader_digit zb_MReader_digit 1 (some .boolean) ∈ gw := gw_t 1828 (by decide +kernel) rfl
theorem zq_MReader_digit : zy_MReader_digit.cls ≠ "java/lang/invoke/MethodHandle" ∧ zy_MReader_digit.cls ≠ "java/lang/invoke/VarHandle" ∧ (parseMethodDescriptor zy_MReader_digit.desc).map (fun d => d.parameters.length) = some 1 := by decide +kernel
theorem zd_MReader_digit_0 : decode zb_MReader_digit 0 = .ok (.iload_n 0, 1) := by decide +kernel
theorem zd_MReader_digit_1 : decode zb_MReader_digit 1 = .ok (.bipush 48, 2) := by decide +kernel
theorem zd_MReader_digit_3 : decode zb_MReader_digit 3 = .ok (.if_icmp .lt 13, 3) := by decide +kernel
theorem zd_MReader_digit_6 : decode zb_MReader_digit 6 = .ok (.iload_n 0, 1) := by decide +kernel
theorem zd_MReader_digit_7 : decode zb_MReader_digit 7 = .ok (.bipush 57, 2) := by decide +kernel
theorem zd_MReader_digit_9 : decode zb_MReader_digit 9 = .ok (.if_icmp .gt 7, 3) := by decide +kernel
theorem zd_MReader_digit_12 : decode zb_MReader_digit 12 = .ok (.iconst 1, 1) := by decide +kernel
theorem zd_MReader_digit_13 : decode zb_MReader_digit 13 = .ok (.goto 4, 3) := by decide +kernel
theorem zd_MReader_digit_16 : decode zb_MReader_digit 16 = .ok (.iconst 0, 1) := by decide +kernel
theorem zd_MReader_digit_17 : decode zb_MReader_digit 17 = .ok (.ireturn, 1) := by decide +kernel
def sp_MReader_digit (c : Int32) : Int32 := (if c < 48 then 0 else (if 57 < c then 0 else 1))
set_option maxHeartbeats 4000000 in
set_option maxRecDepth 100000 in
theorem c_MReader_digit (l : Launch) (D : va_G) (tA : Nat → ClassId) (b : Nat) (f : zV) (n : Nat) (c : Int32)   : zM l D tA b zy_MReader_digit zb_MReader_digit 1 (some .boolean) 0 0 0 0 [.int c] f n (zE (some (.int (sp_MReader_digit c))) f n) := by
  refine zM_of (own := "OrreryBoxModel$Reader") (plainFor_of_name (by decide)) rfl (Nat.le_of_ble_eq_true rfl) (fun p e s m below meth c F hr hin hH => ?_)
  refine zr_iload_n F zd_MReader_digit_0 rfl ?_
  refine zr_bipushv (v := 48) F zd_MReader_digit_1 (by decide) ?_
  refine zr_icmp_lt F 16 zd_MReader_digit_3 (by decide) (fun h1 => ?_) (fun h1 => ?_)
  ·
    refine zr_iconstv (v := 0) F zd_MReader_digit_16 (by decide) ?_
    exact zr_zret F hr rfl zd_MReader_digit_17 (Nat.le_of_ble_eq_true rfl) (Nat.le_of_ble_eq_true rfl) ⟨by rw [sp_MReader_digit, if_pos h1], rfl, rfl⟩
  ·
    refine zr_iload_n F zd_MReader_digit_6 rfl ?_
    refine zr_bipushv (v := 57) F zd_MReader_digit_7 (by decide) ?_
    refine zr_icmp_gt F 16 zd_MReader_digit_9 (by decide) (fun h2 => ?_) (fun h2 => ?_)
    ·
      refine zr_iconstv (v := 0) F zd_MReader_digit_16 (by decide) ?_
      exact zr_zret F hr rfl zd_MReader_digit_17 (Nat.le_of_ble_eq_true rfl) (Nat.le_of_ble_eq_true rfl) ⟨by rw [sp_MReader_digit, if_neg h1, if_pos h2], rfl, rfl⟩
    ·
      refine zr_iconstv (v := 1) F zd_MReader_digit_12 (by decide) ?_
      refine zr_goto F 17 zd_MReader_digit_13 (by decide) ?_
      exact zr_zret F hr rfl zd_MReader_digit_17 (Nat.le_of_ble_eq_true rfl) (Nat.le_of_ble_eq_true rfl) ⟨by rw [sp_MReader_digit, if_neg h1, if_neg h2], rfl, rfl⟩
abbrev zb_XTexture_wrapped : ByteArray := prog_11_method_9_code
def zy_XTexture_wrapped : MethodName := ⟨"OrreryBox$Texture", "wrapped", "(II)I"⟩
theorem zc_XTexture_wrapped : Cond.code zy_XTexture_wrapped zb_XTexture_wrapped 4 (some .int) ∈ gw := gw_t 855 (by decide +kernel) rfl
theorem zq_XTexture_wrapped : zy_XTexture_wrapped.cls ≠ "java/lang/invoke/MethodHandle" ∧ zy_XTexture_wrapped.cls ≠ "java/lang/invoke/VarHandle" ∧ (parseMethodDescriptor zy_XTexture_wrapped.desc).map (fun d => d.parameters.length) = some 2 := by decide +kernel
theorem zd_XTexture_wrapped_0 : decode zb_XTexture_wrapped 0 = .ok (.iload_n 1, 1) := by decide +kernel
theorem zd_XTexture_wrapped_1 : decode zb_XTexture_wrapped 1 = .ok (.ifCond .lt 10, 3) := by decide +kernel
theorem zd_XTexture_wrapped_4 : decode zb_XTexture_wrapped 4 = .ok (.iload_n 1, 1) := by decide +kernel
theorem zd_XTexture_wrapped_5 : decode zb_XTexture_wrapped 5 = .ok (.iload_n 2, 1) := by decide +kernel
theorem zd_XTexture_wrapped_6 : decode zb_XTexture_wrapped 6 = .ok (.if_icmp .ge 5, 3) := by decide +kernel
theorem zd_XTexture_wrapped_9 : decode zb_XTexture_wrapped 9 = .ok (.iload_n 1, 1) := by decide +kernel
theorem zd_XTexture_wrapped_10 : decode zb_XTexture_wrapped 10 = .ok (.ireturn, 1) := by decide +kernel
theorem zd_XTexture_wrapped_11 : decode zb_XTexture_wrapped 11 = .ok (.aload_n 0, 1) := by decide +kernel
theorem zd_XTexture_wrapped_12 : decode zb_XTexture_wrapped 12 = .ok (.getfield 52, 3) := by decide +kernel
theorem zd_XTexture_wrapped_15 : decode zb_XTexture_wrapped 15 = .ok (.iconst 1, 1) := by decide +kernel
theorem zd_XTexture_wrapped_16 : decode zb_XTexture_wrapped 16 = .ok (.if_icmp .ne 15, 3) := by decide +kernel
theorem zd_XTexture_wrapped_19 : decode zb_XTexture_wrapped 19 = .ok (.iload_n 1, 1) := by decide +kernel
theorem zd_XTexture_wrapped_20 : decode zb_XTexture_wrapped 20 = .ok (.ifCond .ge 7, 3) := by decide +kernel
theorem zd_XTexture_wrapped_23 : decode zb_XTexture_wrapped 23 = .ok (.iconst 0, 1) := by decide +kernel
theorem zd_XTexture_wrapped_24 : decode zb_XTexture_wrapped 24 = .ok (.goto 6, 3) := by decide +kernel
theorem zd_XTexture_wrapped_27 : decode zb_XTexture_wrapped 27 = .ok (.iload_n 2, 1) := by decide +kernel
theorem zd_XTexture_wrapped_28 : decode zb_XTexture_wrapped 28 = .ok (.iconst 1, 1) := by decide +kernel
theorem zd_XTexture_wrapped_29 : decode zb_XTexture_wrapped 29 = .ok (.isub, 1) := by decide +kernel
theorem zd_XTexture_wrapped_30 : decode zb_XTexture_wrapped 30 = .ok (.ireturn, 1) := by decide +kernel
theorem zd_XTexture_wrapped_31 : decode zb_XTexture_wrapped 31 = .ok (.aload_n 0, 1) := by decide +kernel
theorem zd_XTexture_wrapped_32 : decode zb_XTexture_wrapped 32 = .ok (.getfield 52, 3) := by decide +kernel
theorem zd_XTexture_wrapped_35 : decode zb_XTexture_wrapped 35 = .ok (.ifCond .ne 9, 3) := by decide +kernel
theorem zd_XTexture_wrapped_38 : decode zb_XTexture_wrapped 38 = .ok (.iload_n 1, 1) := by decide +kernel
theorem zd_XTexture_wrapped_39 : decode zb_XTexture_wrapped 39 = .ok (.iload_n 2, 1) := by decide +kernel
theorem zd_XTexture_wrapped_40 : decode zb_XTexture_wrapped 40 = .ok (.iconst 1, 1) := by decide +kernel
theorem zd_XTexture_wrapped_41 : decode zb_XTexture_wrapped 41 = .ok (.isub, 1) := by decide +kernel
theorem zd_XTexture_wrapped_42 : decode zb_XTexture_wrapped 42 = .ok (.iand, 1) := by decide +kernel
theorem zd_XTexture_wrapped_43 : decode zb_XTexture_wrapped 43 = .ok (.ireturn, 1) := by decide +kernel
theorem zd_XTexture_wrapped_44 : decode zb_XTexture_wrapped 44 = .ok (.iload_n 1, 1) := by decide +kernel
theorem zd_XTexture_wrapped_45 : decode zb_XTexture_wrapped 45 = .ok (.iconst 2, 1) := by decide +kernel
theorem zd_XTexture_wrapped_46 : decode zb_XTexture_wrapped 46 = .ok (.iload_n 2, 1) := by decide +kernel
theorem zd_XTexture_wrapped_47 : decode zb_XTexture_wrapped 47 = .ok (.imul, 1) := by decide +kernel
theorem zd_XTexture_wrapped_48 : decode zb_XTexture_wrapped 48 = .ok (.iconst 1, 1) := by decide +kernel
theorem zd_XTexture_wrapped_49 : decode zb_XTexture_wrapped 49 = .ok (.isub, 1) := by decide +kernel
theorem zd_XTexture_wrapped_50 : decode zb_XTexture_wrapped 50 = .ok (.iand, 1) := by decide +kernel
theorem zd_XTexture_wrapped_51 : decode zb_XTexture_wrapped 51 = .ok (.istore_n 3, 1) := by decide +kernel
theorem zd_XTexture_wrapped_52 : decode zb_XTexture_wrapped 52 = .ok (.iload_n 3, 1) := by decide +kernel
theorem zd_XTexture_wrapped_53 : decode zb_XTexture_wrapped 53 = .ok (.iload_n 2, 1) := by decide +kernel
theorem zd_XTexture_wrapped_54 : decode zb_XTexture_wrapped 54 = .ok (.if_icmp .ge 7, 3) := by decide +kernel
theorem zd_XTexture_wrapped_57 : decode zb_XTexture_wrapped 57 = .ok (.iload_n 3, 1) := by decide +kernel
theorem zd_XTexture_wrapped_58 : decode zb_XTexture_wrapped 58 = .ok (.goto 10, 3) := by decide +kernel
theorem zd_XTexture_wrapped_61 : decode zb_XTexture_wrapped 61 = .ok (.iconst 2, 1) := by decide +kernel
theorem zd_XTexture_wrapped_62 : decode zb_XTexture_wrapped 62 = .ok (.iload_n 2, 1) := by decide +kernel
theorem zd_XTexture_wrapped_63 : decode zb_XTexture_wrapped 63 = .ok (.imul, 1) := by decide +kernel
theorem zd_XTexture_wrapped_64 : decode zb_XTexture_wrapped 64 = .ok (.iconst 1, 1) := by decide +kernel
theorem zd_XTexture_wrapped_65 : decode zb_XTexture_wrapped 65 = .ok (.isub, 1) := by decide +kernel
theorem zd_XTexture_wrapped_66 : decode zb_XTexture_wrapped 66 = .ok (.iload_n 3, 1) := by decide +kernel
theorem zd_XTexture_wrapped_67 : decode zb_XTexture_wrapped 67 = .ok (.isub, 1) := by decide +kernel
theorem zd_XTexture_wrapped_68 : decode zb_XTexture_wrapped 68 = .ok (.ireturn, 1) := by decide +kernel
theorem zw_151 : (Jvm.Cond.fieldLink "OrreryBox$Texture" (52 : Nat) "OrreryBox$Texture" "wrap" "I") ∈ gw := gw_t 151 (by decide +kernel) rfl
def sp_XTexture_wrapped (i : Int32) (sz : Int32) (a : Nat) (sd : Int32) (wr : Int32) (so : Int32) (la : Int32) (a1 : Nat) (a2 : Nat) : Int32 := (if i < 0 then (if wr = 1 then (if 0 ≤ i then (sz - 1) else 0) else (if wr = 0 then (i &&& (sz - 1)) else (if sz ≤ (i &&& ((2 * sz) - 1)) then (((2 * sz) - 1) - (i &&& ((2 * sz) - 1))) else (i &&& ((2 * sz) - 1))))) else (if sz ≤ i then (if wr = 1 then (if 0 ≤ i then (sz - 1) else 0) else (if wr = 0 then (i &&& (sz - 1)) else (if sz ≤ (i &&& ((2 * sz) - 1)) then (((2 * sz) - 1) - (i &&& ((2 * sz) - 1))) else (i &&& ((2 * sz) - 1))))) else i))
set_option maxHeartbeats 4000000 in
set_option maxRecDepth 100000 in
theorem c_XTexture_wrapped (l : Launch) (D : va_G) (tA : Nat → ClassId) (b : Nat) (f : zV) (n : Nat) (i : Int32) (sz : Int32) (a : Nat) (sd : Int32) (wr : Int32) (so : Int32) (la : Int32) (a1 : Nat) (a2 : Nat) (hf : f a = some (.inr (10, [.int sd, .int wr, .int so, .int la, .ref (b + a1), .ref (b + a2)])))  : zM l D tA b zy_XTexture_wrapped zb_XTexture_wrapped 4 (some .int) 0 0 0 0 [.ref (b + a), .int i, .int sz] f n (zE (some (.int (sp_XTexture_wrapped i sz a sd wr so la a1 a2))) f n) := by
  refine zM_of (own := "OrreryBox$Texture") (plainFor_of_name (by decide)) rfl (Nat.le_of_ble_eq_true rfl) (fun p e s m below meth c F hr hin hH => ?_)
  refine zr_iload_n F zd_XTexture_wrapped_0 rfl ?_
  refine zr_if_lt F 11 zd_XTexture_wrapped_1 (by decide) (fun h1 => ?_) (fun h1 => ?_)
  ·
    refine zr_aload_n F zd_XTexture_wrapped_11 rfl ?_
    refine zr_get F 10 1 zd_XTexture_wrapped_12 hf rfl (by decide) zw_151 rfl (by rfl) ?_
    refine zr_iconstv (v := 1) F zd_XTexture_wrapped_15 (by decide) ?_
    refine zr_icmp_ne F 31 zd_XTexture_wrapped_16 (by decide) (fun h2 => ?_) (fun h2 => ?_)
    ·
      refine zr_aload_n F zd_XTexture_wrapped_31 rfl ?_
      refine zr_get F 10 1 zd_XTexture_wrapped_32 hf rfl (by decide) zw_151 rfl (by rfl) ?_
      refine zr_if_ne F 44 zd_XTexture_wrapped_35 (by decide) (fun h3 => ?_) (fun h3 => ?_)
      ·
        refine zr_iload_n F zd_XTexture_wrapped_44 rfl ?_
        refine zr_iconstv (v := 2) F zd_XTexture_wrapped_45 (by decide) ?_
        refine zr_iload_n F zd_XTexture_wrapped_46 rfl ?_
        refine zr_imul F zd_XTexture_wrapped_47 ?_
        refine zr_iconstv (v := 1) F zd_XTexture_wrapped_48 (by decide) ?_
        refine zr_isub F zd_XTexture_wrapped_49 ?_
        refine zr_iand F zd_XTexture_wrapped_50 ?_
        refine zr_istore_n F zd_XTexture_wrapped_51 (by decide) ?_
        refine zr_iload_n F zd_XTexture_wrapped_52 rfl ?_
        refine zr_iload_n F zd_XTexture_wrapped_53 rfl ?_
        refine zr_icmp_ge F 61 zd_XTexture_wrapped_54 (by decide) (fun h4 => ?_) (fun h4 => ?_)
        ·
          refine zr_iconstv (v := 2) F zd_XTexture_wrapped_61 (by decide) ?_
          refine zr_iload_n F zd_XTexture_wrapped_62 rfl ?_
          refine zr_imul F zd_XTexture_wrapped_63 ?_
          refine zr_iconstv (v := 1) F zd_XTexture_wrapped_64 (by decide) ?_
          refine zr_isub F zd_XTexture_wrapped_65 ?_
          refine zr_iload_n F zd_XTexture_wrapped_66 rfl ?_
          refine zr_isub F zd_XTexture_wrapped_67 ?_
          exact zr_iret F hr zd_XTexture_wrapped_68 (Nat.le_of_ble_eq_true rfl) (Nat.le_of_ble_eq_true rfl) ⟨by rw [sp_XTexture_wrapped, if_pos h1, if_neg h2, if_neg h3, if_pos h4], rfl, rfl⟩
        ·
          refine zr_iload_n F zd_XTexture_wrapped_57 rfl ?_
          refine zr_goto F 68 zd_XTexture_wrapped_58 (by decide) ?_
          exact zr_iret F hr zd_XTexture_wrapped_68 (Nat.le_of_ble_eq_true rfl) (Nat.le_of_ble_eq_true rfl) ⟨by rw [sp_XTexture_wrapped, if_pos h1, if_neg h2, if_neg h3, if_neg h4], rfl, rfl⟩
      ·
        refine zr_iload_n F zd_XTexture_wrapped_38 rfl ?_
        refine zr_iload_n F zd_XTexture_wrapped_39 rfl ?_
        refine zr_iconstv (v := 1) F zd_XTexture_wrapped_40 (by decide) ?_
        refine zr_isub F zd_XTexture_wrapped_41 ?_
        refine zr_iand F zd_XTexture_wrapped_42 ?_
        exact zr_iret F hr zd_XTexture_wrapped_43 (Nat.le_of_ble_eq_true rfl) (Nat.le_of_ble_eq_true rfl) ⟨by rw [sp_XTexture_wrapped, if_pos h1, if_neg h2, if_pos h3], rfl, rfl⟩
    ·
      refine zr_iload_n F zd_XTexture_wrapped_19 rfl ?_
      refine zr_if_ge F 27 zd_XTexture_wrapped_20 (by decide) (fun h5 => ?_) (fun h5 => ?_)
      ·
        refine zr_iload_n F zd_XTexture_wrapped_27 rfl ?_
        refine zr_iconstv (v := 1) F zd_XTexture_wrapped_28 (by decide) ?_
        refine zr_isub F zd_XTexture_wrapped_29 ?_
        exact zr_iret F hr zd_XTexture_wrapped_30 (Nat.le_of_ble_eq_true rfl) (Nat.le_of_ble_eq_true rfl) ⟨by rw [sp_XTexture_wrapped, if_pos h1, if_pos h2, if_pos h5], rfl, rfl⟩
      ·
        refine zr_iconstv (v := 0) F zd_XTexture_wrapped_23 (by decide) ?_
        refine zr_goto F 30 zd_XTexture_wrapped_24 (by decide) ?_
        exact zr_iret F hr zd_XTexture_wrapped_30 (Nat.le_of_ble_eq_true rfl) (Nat.le_of_ble_eq_true rfl) ⟨by rw [sp_XTexture_wrapped, if_pos h1, if_pos h2, if_neg h5], rfl, rfl⟩
  ·
    refine zr_iload_n F zd_XTexture_wrapped_4 rfl ?_
    refine zr_iload_n F zd_XTexture_wrapped_5 rfl ?_
    refine zr_icmp_ge F 11 zd_XTexture_wrapped_6 (by decide) (fun h6 => ?_) (fun h6 => ?_)
    ·
      refine zr_aload_n F zd_XTexture_wrapped_11 rfl ?_
      refine zr_get F 10 1 zd_XTexture_wrapped_12 hf rfl (by decide) zw_151 rfl (by rfl) ?_
      refine zr_iconstv (v := 1) F zd_XTexture_wrapped_15 (by decide) ?_
      refine zr_icmp_ne F 31 zd_XTexture_wrapped_16 (by decide) (fun h7 => ?_) (fun h7 => ?_)
      ·
        refine zr_aload_n F zd_XTexture_wrapped_31 rfl ?_
        refine zr_get F 10 1 zd_XTexture_wrapped_32 hf rfl (by decide) zw_151 rfl (by rfl) ?_
        refine zr_if_ne F 44 zd_XTexture_wrapped_35 (by decide) (fun h8 => ?_) (fun h8 => ?_)
        ·
          refine zr_iload_n F zd_XTexture_wrapped_44 rfl ?_
          refine zr_iconstv (v := 2) F zd_XTexture_wrapped_45 (by decide) ?_
          refine zr_iload_n F zd_XTexture_wrapped_46 rfl ?_
          refine zr_imul F zd_XTexture_wrapped_47 ?_
          refine zr_iconstv (v := 1) F zd_XTexture_wrapped_48 (by decide) ?_
          refine zr_isub F zd_XTexture_wrapped_49 ?_
          refine zr_iand F zd_XTexture_wrapped_50 ?_
          refine zr_istore_n F zd_XTexture_wrapped_51 (by decide) ?_
          refine zr_iload_n F zd_XTexture_wrapped_52 rfl ?_
          refine zr_iload_n F zd_XTexture_wrapped_53 rfl ?_
          refine zr_icmp_ge F 61 zd_XTexture_wrapped_54 (by decide) (fun h9 => ?_) (fun h9 => ?_)
          ·
            refine zr_iconstv (v := 2) F zd_XTexture_wrapped_61 (by decide) ?_
            refine zr_iload_n F zd_XTexture_wrapped_62 rfl ?_
            refine zr_imul F zd_XTexture_wrapped_63 ?_
            refine zr_iconstv (v := 1) F zd_XTexture_wrapped_64 (by decide) ?_
            refine zr_isub F zd_XTexture_wrapped_65 ?_
            refine zr_iload_n F zd_XTexture_wrapped_66 rfl ?_
            refine zr_isub F zd_XTexture_wrapped_67 ?_
            exact zr_iret F hr zd_XTexture_wrapped_68 (Nat.le_of_ble_eq_true rfl) (Nat.le_of_ble_eq_true rfl) ⟨by rw [sp_XTexture_wrapped, if_neg h1, if_pos h6, if_neg h7, if_neg h8, if_pos h9], rfl, rfl⟩
          ·
            refine zr_iload_n F zd_XTexture_wrapped_57 rfl ?_
            refine zr_goto F 68 zd_XTexture_wrapped_58 (by decide) ?_
            exact zr_iret F hr zd_XTexture_wrapped_68 (Nat.le_of_ble_eq_true rfl) (Nat.le_of_ble_eq_true rfl) ⟨by rw [sp_XTexture_wrapped, if_neg h1, if_pos h6, if_neg h7, if_neg h8, if_neg h9], rfl, rfl⟩
        ·
          refine zr_iload_n F zd_XTexture_wrapped_38 rfl ?_
          refine zr_iload_n F zd_XTexture_wrapped_39 rfl ?_
          refine zr_iconstv (v := 1) F zd_XTexture_wrapped_40 (by decide) ?_
          refine zr_isub F zd_XTexture_wrapped_41 ?_
          refine zr_iand F zd_XTexture_wrapped_42 ?_
          exact zr_iret F hr zd_XTexture_wrapped_43 (Nat.le_of_ble_eq_true rfl) (Nat.le_of_ble_eq_true rfl) ⟨by rw [sp_XTexture_wrapped, if_neg h1, if_pos h6, if_neg h7, if_pos h8], rfl, rfl⟩
      ·
        refine zr_iload_n F zd_XTexture_wrapped_19 rfl ?_
        refine zr_if_ge F 27 zd_XTexture_wrapped_20 (by decide) (fun h10 => ?_) (fun h10 => ?_)
        ·
          refine zr_iload_n F zd_XTexture_wrapped_27 rfl ?_
          refine zr_iconstv (v := 1) F zd_XTexture_wrapped_28 (by decide) ?_
          refine zr_isub F zd_XTexture_wrapped_29 ?_
          exact zr_iret F hr zd_XTexture_wrapped_30 (Nat.le_of_ble_eq_true rfl) (Nat.le_of_ble_eq_true rfl) ⟨by rw [sp_XTexture_wrapped, if_neg h1, if_pos h6, if_pos h7, if_pos h10], rfl, rfl⟩
        ·
          refine zr_iconstv (v := 0) F zd_XTexture_wrapped_23 (by decide) ?_
          refine zr_goto F 30 zd_XTexture_wrapped_24 (by decide) ?_
          exact zr_iret F hr zd_XTexture_wrapped_30 (Nat.le_of_ble_eq_true rfl) (Nat.le_of_ble_eq_true rfl) ⟨by rw [sp_XTexture_wrapped, if_neg h1, if_pos h6, if_pos h7, if_neg h10], rfl, rfl⟩
    ·
      refine zr_iload_n F zd_XTexture_wrapped_9 rfl ?_
      exact zr_iret F hr zd_XTexture_wrapped_10 (Nat.le_of_ble_eq_true rfl) (Nat.le_of_ble_eq_true rfl) ⟨by rw [sp_XTexture_wrapped, if_neg h1, if_neg h6], rfl, rfl⟩
abbrev zb_XPiece_near : ByteArray := prog_7_method_13_code
def zy_XPiece_near : MethodName := ⟨"OrreryBox$Piece", "near", "()J"⟩
theorem zc_XPiece_near : Cond.code zy_XPiece_near zb_XPiece_near 1 (some .long) ∈ gw := gw_t 832 (by decide +kernel) rfl
theorem zq_XPiece_near : zy_XPiece_near.cls ≠ "java/lang/invoke/MethodHandle" ∧ zy_XPiece_near.cls ≠ "java/lang/invoke/VarHandle" ∧ (parseMethodDescriptor zy_XPiece_near.desc).map (fun d => d.parameters.length) = some 0 := by decide +kernel
theorem zd_XPiece_near_0 : decode zb_XPiece_near 0 = .ok (.aload_n 0, 1) := by decide +kernel
theorem zd_XPiece_near_1 : decode zb_XPiece_near 1 = .ok (.getfield 66, 3) := by decide +kernel
theorem zd_XPiece_near_4 : decode zb_XPiece_near 4 = .ok (.aload_n 0, 1) := by decide +kernel
theorem zd_XPiece_near_5 : decode zb_XPiece_near 5 = .ok (.getfield 25, 3) := by decide +kernel
theorem zd_XPiece_near_8 : decode zb_XPiece_near 8 = .ok (.invokestatic 69, 3) := by decide +kernel
theorem zd_XPiece_near_11 : decode zb_XPiece_near 11 = .ok (.lreturn, 1) := by decide +kernel
theorem zw_355 : (Jvm.Cond.fieldLink "OrreryBox$Piece" (66 : Nat) "OrreryBox$Piece" "h" "J") ∈ gw := gw_t 355 (by decide +kernel) rfl
theorem zw_349 : (Jvm.Cond.fieldLink "OrreryBox$Piece" (25 : Nat) "OrreryBox$Piece" "area" "J") ∈ gw := gw_t 349 (by decide +kernel) rfl
theorem zw_833 : (Jvm.Cond.methodLink "OrreryBox$Piece" (69 : Nat) ({ cls := "OrreryBox$Fixed", name := "div", desc := "(JJ)J" } : Jvm.MethodName)) ∈ gw := gw_t 833 (by decide +kernel) rfl
theorem zs_XPiece_69 : zwS "OrreryBox$Piece" 69 zy_XFixed_div zb_XFixed_div 4 (some .long) := ⟨zw_833, zw_571, zw_27, zc_XFixed_div⟩
def sp_XPiece_near (a : Nat) (ar : Int64) (a1 : Nat) (w0 : Int64) (w1 : Int64) (w2 : Int64) (hh : Int64) : Int64 := (zx_div (hh) (ar))
set_option maxHeartbeats 4000000 in
set_option maxRecDepth 100000 in
theorem c_XPiece_near (l : Launch) (D : va_G) (tA : Nat → ClassId) (b : Nat) (f : zV) (n : Nat) (a : Nat) (ar : Int64) (a1 : Nat) (w0 : Int64) (w1 : Int64) (w2 : Int64) (hh : Int64) (hf : f a = some (.inr (6, [.long ar, .ref (b + a1), .long w0, .long w1, .long w2, .long hh])))  : zM l D tA b zy_XPiece_near zb_XPiece_near 1 (some .long) 2 48 0 0 [.ref (b + a)] f n (zE (some (.long (sp_XPiece_near a ar a1 w0 w1 w2 hh))) f n) := by
  refine zM_of (own := "OrreryBox$Piece") (plainFor_of_name (by decide)) rfl (Nat.le_of_ble_eq_true rfl) (fun p e s m below meth c F hr hin hH => ?_)
  refine zr_aload_n F zd_XPiece_near_0 rfl ?_
  refine zr_get F 6 5 zd_XPiece_near_1 hf rfl (by decide) zw_355 rfl (by rfl) ?_
  refine zr_aload_n F zd_XPiece_near_4 rfl ?_
  refine zr_get F 6 0 zd_XPiece_near_5 hf rfl (by decide) zw_349 rfl (by rfl) ?_
  refine zr_callS1 F (c_XFixed_div l D tA b _ _ (hh) (ar)) zd_XPiece_near_8 zs_XPiece_69 zq_XFixed_div rfl rfl ⟨(Nat.le_of_ble_eq_true rfl), (Nat.le_of_ble_eq_true rfl)⟩ (Nat.le_of_ble_eq_true rfl) ⟨(Nat.le_of_ble_eq_true rfl), (Nat.le_of_ble_eq_true rfl)⟩ ?_
  exact zr_lret F hr zd_XPiece_near_11 (Nat.le_of_ble_eq_true rfl) (Nat.le_of_ble_eq_true rfl) ⟨by rw [sp_XPiece_near], rfl, rfl⟩
abbrev zb_MReader_fail : ByteArray := prog_17_method_2_code
def zy_MReader_fail : MethodName := ⟨"OrreryBoxModel$Reader", "fail", "(II)V"⟩
theorem zc_MReader_fail : Cond.code zy_MReader_fail zb_MReader_fail 3 none ∈ gw := gw_t 1780 (by decide +kernel) rfl
theorem zq_MReader_fail : zy_MReader_fail.cls ≠ "java/lang/invoke/MethodHandle" ∧ zy_MReader_fail.cls ≠ "java/lang/invoke/VarHandle" ∧ (parseMethodDescriptor zy_MReader_fail.desc).map (fun d => d.parameters.length) = some 2 := by decide +kernel
theorem zd_MReader_fail_0 : decode zb_MReader_fail 0 = .ok (.aload_n 0, 1) := by decide +kernel
theorem zd_MReader_fail_1 : decode zb_MReader_fail 1 = .ok (.getfield 17, 3) := by decide +kernel
theorem zd_MReader_fail_4 : decode zb_MReader_fail 4 = .ok (.ifCond .eq 4, 3) := by decide +kernel
theorem zd_MReader_fail_7 : decode zb_MReader_fail 7 = .ok (.return_, 1) := by decide +kernel
theorem zd_MReader_fail_8 : decode zb_MReader_fail 8 = .ok (.aload_n 0, 1) := by decide +kernel
theorem zd_MReader_fail_9 : decode zb_MReader_fail 9 = .ok (.iload_n 1, 1) := by decide +kernel
theorem zd_MReader_fail_10 : decode zb_MReader_fail 10 = .ok (.putfield 17, 3) := by decide +kernel
theorem zd_MReader_fail_13 : decode zb_MReader_fail 13 = .ok (.aload_n 0, 1) := by decide +kernel
theorem zd_MReader_fail_14 : decode zb_MReader_fail 14 = .ok (.iload_n 2, 1) := by decide +kernel
theorem zd_MReader_fail_15 : decode zb_MReader_fail 15 = .ok (.putfield 21, 3) := by decide +kernel
theorem zd_MReader_fail_18 : decode zb_MReader_fail 18 = .ok (.return_, 1) := by decide +kernel
theorem zw_1508 : (Jvm.Cond.fieldLink "OrreryBoxModel$Reader" (17 : Nat) "OrreryBoxModel$Reader" "wrong" "I") ∈ gw := gw_t 1508 (by decide +kernel) rfl
theorem zw_1510 : (Jvm.Cond.fieldLink "OrreryBoxModel$Reader" (21 : Nat) "OrreryBoxModel$Reader" "wrongAt" "I") ∈ gw := gw_t 1510 (by decide +kernel) rfl
def sw_MReader_fail (tA : Nat → ClassId) (b : Nat) (f : zV) (k : Int32) (pl : Int32) (sz : Int32) (ap : Int32) (wr : Int32) (wa : Int32) (na : Int32) (nu : Int32) (ii : Int32) (ls : Int32) (pt : Int32) : zV := (if wr = 0 then (zu (f) 1277 (.inr (14, [.ref (b + 1186), .ref (b + 1217), .int sz, .int ap, .int k, .int pl, .int na, .int nu, .int ii, .int ls, .int pt]))) else (f))
set_option maxHeartbeats 4000000 in
set_option maxRecDepth 100000 in
theorem c_MReader_fail (l : Launch) (D : va_G) (tA : Nat → ClassId) (b : Nat) (f : zV) (n : Nat) (k : Int32) (pl : Int32) (sz : Int32) (ap : Int32) (wr : Int32) (wa : Int32) (na : Int32) (nu : Int32) (ii : Int32) (ls : Int32) (pt : Int32) (hf : f 1277 = some (.inr (14, [.ref (b + 1186), .ref (b + 1217), .int sz, .int ap, .int wr, .int wa, .int na, .int nu, .int ii, .int ls, .int pt])))  : zM l D tA b zy_MReader_fail zb_MReader_fail 3 none 0 0 0 0 [.ref (b + 1277), .int k, .int pl] f n (zE none (sw_MReader_fail tA b f k pl sz ap wr wa na nu ii ls pt) n) := by
  refine zM_of (own := "OrreryBoxModel$Reader") (plainFor_of_name (by decide)) rfl (Nat.le_of_ble_eq_true rfl) (fun p e s m below meth c F hr hin hH => ?_)
  refine zr_aload_n F zd_MReader_fail_0 rfl ?_
  refine zr_get F 14 4 zd_MReader_fail_1 hf rfl (by decide) zw_1508 rfl (by rfl) ?_
  refine zr_if_eq F 8 zd_MReader_fail_4 (by decide) (fun h1 => ?_) (fun h1 => ?_)
  ·
    refine zr_aload_n F zd_MReader_fail_8 rfl ?_
    refine zr_iload_n F zd_MReader_fail_9 rfl ?_
    refine zr_put F 14 4 zd_MReader_fail_10 hf rfl (by decide) zw_1508 rfl rfl rfl rfl (by exact (Nat.le_of_ble_eq_true rfl)) ?_
    refine zr_norm (zu (f) 1277 (.inr (14, [.ref (b + 1186), .ref (b + 1217), .int sz, .int ap, .int k, .int wa, .int na, .int nu, .int ii, .int ls, .int pt]))) _ (rfl) rfl ?_
    refine zr_aload_n F zd_MReader_fail_13 rfl ?_
    refine zr_iload_n F zd_MReader_fail_14 rfl ?_
    refine zr_put F 14 5 zd_MReader_fail_15 (zu_s _ _ _) rfl (by decide) zw_1510 rfl rfl rfl rfl (by exact (Nat.le_of_ble_eq_true rfl)) ?_
    refine zr_norm (zu (f) 1277 (.inr (14, [.ref (b + 1186), .ref (b + 1217), .int sz, .int ap, .int k, .int pl, .int na, .int nu, .int ii, .int ls, .int pt]))) _ (zu_zu _ _ _ _) rfl ?_
    exact zr_vret F hr zd_MReader_fail_18 (Nat.le_of_ble_eq_true rfl) (Nat.le_of_ble_eq_true rfl) ⟨rfl, by rw [sw_MReader_fail, if_pos h1], rfl⟩
  ·
    exact zr_vret F hr zd_MReader_fail_7 (Nat.le_of_ble_eq_true rfl) (Nat.le_of_ble_eq_true rfl) ⟨rfl, by rw [sw_MReader_fail, if_neg h1], rfl⟩
abbrev zb_MReader_fits : ByteArray := prog_17_method_12_code
def zy_MReader_fits : MethodName := ⟨"OrreryBoxModel$Reader", "fits", "(III)Z"⟩
theorem zc_MReader_fits : Cond.code zy_MReader_fits zb_MReader_fits 4 (some .boolean) ∈ gw := gw_t 1848 (by decide +kernel) rfl
theorem zq_MReader_fits : zy_MReader_fits.cls ≠ "java/lang/invoke/MethodHandle" ∧ zy_MReader_fits.cls ≠ "java/lang/invoke/VarHandle" ∧ (parseMethodDescriptor zy_MReader_fits.desc).map (fun d => d.parameters.length) = some 3 := by decide +kernel
theorem zd_MReader_fits_0 : decode zb_MReader_fits 0 = .ok (.iload_n 1, 1) := by decide +kernel
theorem zd_MReader_fits_1 : decode zb_MReader_fits 1 = .ok (.tableswitch 207 0 6 #[43, 66, 90, 114, 138, 159, 183], 43) := by decide +kernel
theorem zd_MReader_fits_44 : decode zb_MReader_fits 44 = .ok (.aload_n 0, 1) := by decide +kernel
theorem zd_MReader_fits_45 : decode zb_MReader_fits 45 = .ok (.getfield 80, 3) := by decide +kernel
theorem zd_MReader_fits_48 : decode zb_MReader_fits 48 = .ok (.ifCond .lt 17, 3) := by decide +kernel
theorem zd_MReader_fits_51 : decode zb_MReader_fits 51 = .ok (.aload_n 0, 1) := by decide +kernel
theorem zd_MReader_fits_52 : decode zb_MReader_fits 52 = .ok (.getfield 80, 3) := by decide +kernel
theorem zd_MReader_fits_55 : decode zb_MReader_fits 55 = .ok (.sipush 255, 3) := by decide +kernel
theorem zd_MReader_fits_58 : decode zb_MReader_fits 58 = .ok (.if_icmp .gt 7, 3) := by decide +kernel
theorem zd_MReader_fits_61 : decode zb_MReader_fits 61 = .ok (.iconst 1, 1) := by decide +kernel
theorem zd_MReader_fits_62 : decode zb_MReader_fits 62 = .ok (.goto 4, 3) := by decide +kernel
theorem zd_MReader_fits_65 : decode zb_MReader_fits 65 = .ok (.iconst 0, 1) := by decide +kernel
theorem zd_MReader_fits_66 : decode zb_MReader_fits 66 = .ok (.ireturn, 1) := by decide +kernel
theorem zd_MReader_fits_67 : decode zb_MReader_fits 67 = .ok (.aload_n 0, 1) := by decide +kernel
theorem zd_MReader_fits_68 : decode zb_MReader_fits 68 = .ok (.getfield 80, 3) := by decide +kernel
theorem zd_MReader_fits_71 : decode zb_MReader_fits 71 = .ok (.ldc 94, 2) := by decide +kernel
theorem zd_MReader_fits_73 : decode zb_MReader_fits 73 = .ok (.if_icmp .lt 16, 3) := by decide +kernel
theorem zd_MReader_fits_76 : decode zb_MReader_fits 76 = .ok (.aload_n 0, 1) := by decide +kernel
theorem zd_MReader_fits_77 : decode zb_MReader_fits 77 = .ok (.getfield 80, 3) := by decide +kernel
theorem zd_MReader_fits_80 : decode zb_MReader_fits 80 = .ok (.ldc 95, 2) := by decide +kernel
theorem zd_MReader_fits_82 : decode zb_MReader_fits 82 = .ok (.if_icmp .gt 7, 3) := by decide +kernel
theorem zd_MReader_fits_85 : decode zb_MReader_fits 85 = .ok (.iconst 1, 1) := by decide +kernel
theorem zd_MReader_fits_86 : decode zb_MReader_fits 86 = .ok (.goto 4, 3) := by decide +kernel
theorem zd_MReader_fits_89 : decode zb_MReader_fits 89 = .ok (.iconst 0, 1) := by decide +kernel
theorem zd_MReader_fits_90 : decode zb_MReader_fits 90 = .ok (.ireturn, 1) := by decide +kernel
theorem zd_MReader_fits_91 : decode zb_MReader_fits 91 = .ok (.aload_n 0, 1) := by decide +kernel
theorem zd_MReader_fits_92 : decode zb_MReader_fits 92 = .ok (.getfield 80, 3) := by decide +kernel
theorem zd_MReader_fits_95 : decode zb_MReader_fits 95 = .ok (.ldc 96, 2) := by decide +kernel
theorem zd_MReader_fits_97 : decode zb_MReader_fits 97 = .ok (.if_icmp .lt 16, 3) := by decide +kernel
theorem zd_MReader_fits_100 : decode zb_MReader_fits 100 = .ok (.aload_n 0, 1) := by decide +kernel
theorem zd_MReader_fits_101 : decode zb_MReader_fits 101 = .ok (.getfield 80, 3) := by decide +kernel
theorem zd_MReader_fits_104 : decode zb_MReader_fits 104 = .ok (.ldc 97, 2) := by decide +kernel
theorem zd_MReader_fits_106 : decode zb_MReader_fits 106 = .ok (.if_icmp .gt 7, 3) := by decide +kernel
theorem zd_MReader_fits_109 : decode zb_MReader_fits 109 = .ok (.iconst 1, 1) := by decide +kernel
theorem zd_MReader_fits_110 : decode zb_MReader_fits 110 = .ok (.goto 4, 3) := by decide +kernel
theorem zd_MReader_fits_113 : decode zb_MReader_fits 113 = .ok (.iconst 0, 1) := by decide +kernel
theorem zd_MReader_fits_114 : decode zb_MReader_fits 114 = .ok (.ireturn, 1) := by decide +kernel
theorem zd_MReader_fits_115 : decode zb_MReader_fits 115 = .ok (.aload_n 0, 1) := by decide +kernel
theorem zd_MReader_fits_116 : decode zb_MReader_fits 116 = .ok (.getfield 80, 3) := by decide +kernel
theorem zd_MReader_fits_119 : decode zb_MReader_fits 119 = .ok (.ldc 98, 2) := by decide +kernel
theorem zd_MReader_fits_121 : decode zb_MReader_fits 121 = .ok (.if_icmp .lt 16, 3) := by decide +kernel
theorem zd_MReader_fits_124 : decode zb_MReader_fits 124 = .ok (.aload_n 0, 1) := by decide +kernel
theorem zd_MReader_fits_125 : decode zb_MReader_fits 125 = .ok (.getfield 80, 3) := by decide +kernel
theorem zd_MReader_fits_128 : decode zb_MReader_fits 128 = .ok (.ldc 99, 2) := by decide +kernel
theorem zd_MReader_fits_130 : decode zb_MReader_fits 130 = .ok (.if_icmp .gt 7, 3) := by decide +kernel
theorem zd_MReader_fits_133 : decode zb_MReader_fits 133 = .ok (.iconst 1, 1) := by decide +kernel
theorem zd_MReader_fits_134 : decode zb_MReader_fits 134 = .ok (.goto 4, 3) := by decide +kernel
theorem zd_MReader_fits_137 : decode zb_MReader_fits 137 = .ok (.iconst 0, 1) := by decide +kernel
theorem zd_MReader_fits_138 : decode zb_MReader_fits 138 = .ok (.ireturn, 1) := by decide +kernel
theorem zd_MReader_fits_139 : decode zb_MReader_fits 139 = .ok (.aload_n 0, 1) := by decide +kernel
theorem zd_MReader_fits_140 : decode zb_MReader_fits 140 = .ok (.getfield 80, 3) := by decide +kernel
theorem zd_MReader_fits_143 : decode zb_MReader_fits 143 = .ok (.ifCond .lt 15, 3) := by decide +kernel
theorem zd_MReader_fits_146 : decode zb_MReader_fits 146 = .ok (.aload_n 0, 1) := by decide +kernel
theorem zd_MReader_fits_147 : decode zb_MReader_fits 147 = .ok (.getfield 80, 3) := by decide +kernel
theorem zd_MReader_fits_150 : decode zb_MReader_fits 150 = .ok (.iload_n 3, 1) := by decide +kernel
theorem zd_MReader_fits_151 : decode zb_MReader_fits 151 = .ok (.if_icmp .ge 7, 3) := by decide +kernel
theorem zd_MReader_fits_154 : decode zb_MReader_fits 154 = .ok (.iconst 1, 1) := by decide +kernel
theorem zd_MReader_fits_155 : decode zb_MReader_fits 155 = .ok (.goto 4, 3) := by decide +kernel
theorem zd_MReader_fits_158 : decode zb_MReader_fits 158 = .ok (.iconst 0, 1) := by decide +kernel
theorem zd_MReader_fits_159 : decode zb_MReader_fits 159 = .ok (.ireturn, 1) := by decide +kernel
theorem zd_MReader_fits_160 : decode zb_MReader_fits 160 = .ok (.aload_n 0, 1) := by decide +kernel
theorem zd_MReader_fits_161 : decode zb_MReader_fits 161 = .ok (.getfield 80, 3) := by decide +kernel
theorem zd_MReader_fits_164 : decode zb_MReader_fits 164 = .ok (.ldc 100, 2) := by decide +kernel
theorem zd_MReader_fits_166 : decode zb_MReader_fits 166 = .ok (.if_icmp .lt 16, 3) := by decide +kernel
theorem zd_MReader_fits_169 : decode zb_MReader_fits 169 = .ok (.aload_n 0, 1) := by decide +kernel
theorem zd_MReader_fits_170 : decode zb_MReader_fits 170 = .ok (.getfield 80, 3) := by decide +kernel
theorem zd_MReader_fits_173 : decode zb_MReader_fits 173 = .ok (.ldc 101, 2) := by decide +kernel
theorem zd_MReader_fits_175 : decode zb_MReader_fits 175 = .ok (.if_icmp .gt 7, 3) := by decide +kernel
theorem zd_MReader_fits_178 : decode zb_MReader_fits 178 = .ok (.iconst 1, 1) := by decide +kernel
theorem zd_MReader_fits_179 : decode zb_MReader_fits 179 = .ok (.goto 4, 3) := by decide +kernel
theorem zd_MReader_fits_182 : decode zb_MReader_fits 182 = .ok (.iconst 0, 1) := by decide +kernel
theorem zd_MReader_fits_183 : decode zb_MReader_fits 183 = .ok (.ireturn, 1) := by decide +kernel
theorem zd_MReader_fits_184 : decode zb_MReader_fits 184 = .ok (.aload_n 0, 1) := by decide +kernel
theorem zd_MReader_fits_185 : decode zb_MReader_fits 185 = .ok (.getfield 80, 3) := by decide +kernel
theorem zd_MReader_fits_188 : decode zb_MReader_fits 188 = .ok (.ldc 94, 2) := by decide +kernel
theorem zd_MReader_fits_190 : decode zb_MReader_fits 190 = .ok (.if_icmp .lt 16, 3) := by decide +kernel
theorem zd_MReader_fits_193 : decode zb_MReader_fits 193 = .ok (.aload_n 0, 1) := by decide +kernel
theorem zd_MReader_fits_194 : decode zb_MReader_fits 194 = .ok (.getfield 80, 3) := by decide +kernel
theorem zd_MReader_fits_197 : decode zb_MReader_fits 197 = .ok (.ldc 95, 2) := by decide +kernel
theorem zd_MReader_fits_199 : decode zb_MReader_fits 199 = .ok (.if_icmp .gt 7, 3) := by decide +kernel
theorem zd_MReader_fits_202 : decode zb_MReader_fits 202 = .ok (.iconst 1, 1) := by decide +kernel
theorem zd_MReader_fits_203 : decode zb_MReader_fits 203 = .ok (.goto 4, 3) := by decide +kernel
theorem zd_MReader_fits_206 : decode zb_MReader_fits 206 = .ok (.iconst 0, 1) := by decide +kernel
theorem zd_MReader_fits_207 : decode zb_MReader_fits 207 = .ok (.ireturn, 1) := by decide +kernel
theorem zd_MReader_fits_208 : decode zb_MReader_fits 208 = .ok (.aload_n 0, 1) := by decide +kernel
theorem zd_MReader_fits_209 : decode zb_MReader_fits 209 = .ok (.getfield 80, 3) := by decide +kernel
theorem zd_MReader_fits_212 : decode zb_MReader_fits 212 = .ok (.ifCond .lt 24, 3) := by decide +kernel
theorem zd_MReader_fits_215 : decode zb_MReader_fits 215 = .ok (.aload_n 0, 1) := by decide +kernel
theorem zd_MReader_fits_216 : decode zb_MReader_fits 216 = .ok (.getfield 80, 3) := by decide +kernel
theorem zd_MReader_fits_219 : decode zb_MReader_fits 219 = .ok (.ldc 102, 2) := by decide +kernel
theorem zd_MReader_fits_221 : decode zb_MReader_fits 221 = .ok (.if_icmp .gt 15, 3) := by decide +kernel
theorem zd_MReader_fits_224 : decode zb_MReader_fits 224 = .ok (.aload_n 0, 1) := by decide +kernel
theorem zd_MReader_fits_225 : decode zb_MReader_fits 225 = .ok (.getfield 80, 3) := by decide +kernel
theorem zd_MReader_fits_228 : decode zb_MReader_fits 228 = .ok (.iload_n 2, 1) := by decide +kernel
theorem zd_MReader_fits_229 : decode zb_MReader_fits 229 = .ok (.if_icmp .le 7, 3) := by decide +kernel
theorem zd_MReader_fits_232 : decode zb_MReader_fits 232 = .ok (.iconst 1, 1) := by decide +kernel
theorem zd_MReader_fits_233 : decode zb_MReader_fits 233 = .ok (.goto 4, 3) := by decide +kernel
theorem zd_MReader_fits_236 : decode zb_MReader_fits 236 = .ok (.iconst 0, 1) := by decide +kernel
theorem zd_MReader_fits_237 : decode zb_MReader_fits 237 = .ok (.ireturn, 1) := by decide +kernel
theorem zw_1513 : (Jvm.Cond.fieldLink "OrreryBoxModel$Reader" (80 : Nat) "OrreryBoxModel$Reader" "number" "I") ∈ gw := gw_t 1513 (by decide +kernel) rfl
theorem zw_1849 : (Jvm.Cond.constant "OrreryBoxModel$Reader" (94 : Nat) (-1048576 : Int32)) ∈ gw := gw_t 1849 (by decide +kernel) rfl
theorem zw_1850 : (Jvm.Cond.constant "OrreryBoxModel$Reader" (95 : Nat) (1048576 : Int32)) ∈ gw := gw_t 1850 (by decide +kernel) rfl
theorem zw_1851 : (Jvm.Cond.constant "OrreryBoxModel$Reader" (96 : Nat) (-65536 : Int32)) ∈ gw := gw_t 1851 (by decide +kernel) rfl
theorem zw_1852 : (Jvm.Cond.constant "OrreryBoxModel$Reader" (97 : Nat) (65536 : Int32)) ∈ gw := gw_t 1852 (by decide +kernel) rfl
theorem zw_1853 : (Jvm.Cond.constant "OrreryBoxModel$Reader" (98 : Nat) (-131072 : Int32)) ∈ gw := gw_t 1853 (by decide +kernel) rfl
theorem zw_1854 : (Jvm.Cond.constant "OrreryBoxModel$Reader" (99 : Nat) (131072 : Int32)) ∈ gw := gw_t 1854 (by decide +kernel) rfl
theorem zw_1855 : (Jvm.Cond.constant "OrreryBoxModel$Reader" (100 : Nat) (-4194304 : Int32)) ∈ gw := gw_t 1855 (by decide +kernel) rfl
theorem zw_1856 : (Jvm.Cond.constant "OrreryBoxModel$Reader" (101 : Nat) (4194304 : Int32)) ∈ gw := gw_t 1856 (by decide +kernel) rfl
theorem zw_1857 : (Jvm.Cond.constant "OrreryBoxModel$Reader" (102 : Nat) (1000000 : Int32)) ∈ gw := gw_t 1857 (by decide +kernel) rfl
def sp_MReader_fits (k : Int32) (bf : Int32) (co : Int32) (sz : Int32) (ap : Int32) (wr : Int32) (wa : Int32) (na : Int32) (nu : Int32) (ii : Int32) (ls : Int32) (pt : Int32) : Int32 := (if k = 0 then (if nu < 0 then 0 else (if 255 < nu then 0 else 1)) else (if k = 1 then (if nu < (-1048576) then 0 else (if 1048576 < nu then 0 else 1)) else (if k = 2 then (if nu < (-65536) then 0 else (if 65536 < nu then 0 else 1)) else (if k = 3 then (if nu < (-131072) then 0 else (if 131072 < nu then 0 else 1)) else (if k = 4 then (if nu < 0 then 0 else (if co ≤ nu then 0 else 1)) else (if k = 5 then (if nu < (-4194304) then 0 else (if 4194304 < nu then 0 else 1)) else (if k = 6 then (if nu < (-1048576) then 0 else (if 1048576 < nu then 0 else 1)) else (if nu < 0 then 0 else (if 1000000 < nu then 0 else (if nu ≤ bf then 0 else 1))))))))))
set_option maxHeartbeats 4000000 in
set_option maxRecDepth 100000 in
theorem c_MReader_fits (l : Launch) (D : va_G) (tA : Nat → ClassId) (b : Nat) (f : zV) (n : Nat) (k : Int32) (bf : Int32) (co : Int32) (sz : Int32) (ap : Int32) (wr : Int32) (wa : Int32) (na : Int32) (nu : Int32) (ii : Int32) (ls : Int32) (pt : Int32) (hf : f 1277 = some (.inr (14, [.ref (b + 1186), .ref (b + 1217), .int sz, .int ap, .int wr, .int wa, .int na, .int nu, .int ii, .int ls, .int pt])))  : zM l D tA b zy_MReader_fits zb_MReader_fits 4 (some .boolean) 0 0 0 0 [.ref (b + 1277), .int k, .int bf, .int co] f n (zE (some (.int (sp_MReader_fits k bf co sz ap wr wa na nu ii ls pt))) f n) := by
  refine zM_of (own := "OrreryBoxModel$Reader") (plainFor_of_name (by decide)) rfl (Nat.le_of_ble_eq_true rfl) (fun p e s m below meth c F hr hin hH => ?_)
  refine zr_iload_n F zd_MReader_fits_0 rfl ?_
  by_cases h1_0 : k = 0
  ·
    refine zr_tableIn F 44 zd_MReader_fits_1 (by rw [h1_0]; decide) (by rw [h1_0]; decide) (by rw [h1_0]; rfl) (by decide) ?_
    refine zr_aload_n F zd_MReader_fits_44 rfl ?_
    refine zr_get F 14 7 zd_MReader_fits_45 hf rfl (by decide) zw_1513 rfl (by rfl) ?_
    refine zr_if_lt F 65 zd_MReader_fits_48 (by decide) (fun h2 => ?_) (fun h2 => ?_)
    ·
      refine zr_iconstv (v := 0) F zd_MReader_fits_65 (by decide) ?_
      exact zr_zret F hr rfl zd_MReader_fits_66 (Nat.le_of_ble_eq_true rfl) (Nat.le_of_ble_eq_true rfl) ⟨by rw [sp_MReader_fits, if_pos h1_0, if_pos h2], rfl, rfl⟩
    ·
      refine zr_aload_n F zd_MReader_fits_51 rfl ?_
      refine zr_get F 14 7 zd_MReader_fits_52 hf rfl (by decide) zw_1513 rfl (by rfl) ?_
      refine zr_sipushv (v := 255) F zd_MReader_fits_55 (by decide) ?_
      refine zr_icmp_gt F 65 zd_MReader_fits_58 (by decide) (fun h3 => ?_) (fun h3 => ?_)
      ·
        refine zr_iconstv (v := 0) F zd_MReader_fits_65 (by decide) ?_
        exact zr_zret F hr rfl zd_MReader_fits_66 (Nat.le_of_ble_eq_true rfl) (Nat.le_of_ble_eq_true rfl) ⟨by rw [sp_MReader_fits, if_pos h1_0, if_neg h2, if_pos h3], rfl, rfl⟩
      ·
        refine zr_iconstv (v := 1) F zd_MReader_fits_61 (by decide) ?_
        refine zr_goto F 66 zd_MReader_fits_62 (by decide) ?_
        exact zr_zret F hr rfl zd_MReader_fits_66 (Nat.le_of_ble_eq_true rfl) (Nat.le_of_ble_eq_true rfl) ⟨by rw [sp_MReader_fits, if_pos h1_0, if_neg h2, if_neg h3], rfl, rfl⟩
  ·
    by_cases h1_1 : k = 1
    ·
      refine zr_tableIn F 67 zd_MReader_fits_1 (by rw [h1_1]; decide) (by rw [h1_1]; decide) (by rw [h1_1]; rfl) (by decide) ?_
      refine zr_aload_n F zd_MReader_fits_67 rfl ?_
      refine zr_get F 14 7 zd_MReader_fits_68 hf rfl (by decide) zw_1513 rfl (by rfl) ?_
      refine zr_ldc F zd_MReader_fits_71 zw_1849 ?_
      refine zr_icmp_lt F 89 zd_MReader_fits_73 (by decide) (fun h4 => ?_) (fun h4 => ?_)
      ·
        refine zr_iconstv (v := 0) F zd_MReader_fits_89 (by decide) ?_
        exact zr_zret F hr rfl zd_MReader_fits_90 (Nat.le_of_ble_eq_true rfl) (Nat.le_of_ble_eq_true rfl) ⟨by rw [sp_MReader_fits, if_neg h1_0, if_pos h1_1, if_pos h4], rfl, rfl⟩
      ·
        refine zr_aload_n F zd_MReader_fits_76 rfl ?_
        refine zr_get F 14 7 zd_MReader_fits_77 hf rfl (by decide) zw_1513 rfl (by rfl) ?_
        refine zr_ldc F zd_MReader_fits_80 zw_1850 ?_
        refine zr_icmp_gt F 89 zd_MReader_fits_82 (by decide) (fun h5 => ?_) (fun h5 => ?_)
        ·
          refine zr_iconstv (v := 0) F zd_MReader_fits_89 (by decide) ?_
          exact zr_zret F hr rfl zd_MReader_fits_90 (Nat.le_of_ble_eq_true rfl) (Nat.le_of_ble_eq_true rfl) ⟨by rw [sp_MReader_fits, if_neg h1_0, if_pos h1_1, if_neg h4, if_pos h5], rfl, rfl⟩
        ·
          refine zr_iconstv (v := 1) F zd_MReader_fits_85 (by decide) ?_
          refine zr_goto F 90 zd_MReader_fits_86 (by decide) ?_
          exact zr_zret F hr rfl zd_MReader_fits_90 (Nat.le_of_ble_eq_true rfl) (Nat.le_of_ble_eq_true rfl) ⟨by rw [sp_MReader_fits, if_neg h1_0, if_pos h1_1, if_neg h4, if_neg h5], rfl, rfl⟩
    ·
      by_cases h1_2 : k = 2
      ·
        refine zr_tableIn F 91 zd_MReader_fits_1 (by rw [h1_2]; decide) (by rw [h1_2]; decide) (by rw [h1_2]; rfl) (by decide) ?_
        refine zr_aload_n F zd_MReader_fits_91 rfl ?_
        refine zr_get F 14 7 zd_MReader_fits_92 hf rfl (by decide) zw_1513 rfl (by rfl) ?_
        refine zr_ldc F zd_MReader_fits_95 zw_1851 ?_
        refine zr_icmp_lt F 113 zd_MReader_fits_97 (by decide) (fun h6 => ?_) (fun h6 => ?_)
        ·
          refine zr_iconstv (v := 0) F zd_MReader_fits_113 (by decide) ?_
          exact zr_zret F hr rfl zd_MReader_fits_114 (Nat.le_of_ble_eq_true rfl) (Nat.le_of_ble_eq_true rfl) ⟨by rw [sp_MReader_fits, if_neg h1_0, if_neg h1_1, if_pos h1_2, if_pos h6], rfl, rfl⟩
        ·
          refine zr_aload_n F zd_MReader_fits_100 rfl ?_
          refine zr_get F 14 7 zd_MReader_fits_101 hf rfl (by decide) zw_1513 rfl (by rfl) ?_
          refine zr_ldc F zd_MReader_fits_104 zw_1852 ?_
          refine zr_icmp_gt F 113 zd_MReader_fits_106 (by decide) (fun h7 => ?_) (fun h7 => ?_)
          ·
            refine zr_iconstv (v := 0) F zd_MReader_fits_113 (by decide) ?_
            exact zr_zret F hr rfl zd_MReader_fits_114 (Nat.le_of_ble_eq_true rfl) (Nat.le_of_ble_eq_true rfl) ⟨by rw [sp_MReader_fits, if_neg h1_0, if_neg h1_1, if_pos h1_2, if_neg h6, if_pos h7], rfl, rfl⟩
          ·
            refine zr_iconstv (v := 1) F zd_MReader_fits_109 (by decide) ?_
            refine zr_goto F 114 zd_MReader_fits_110 (by decide) ?_
            exact zr_zret F hr rfl zd_MReader_fits_114 (Nat.le_of_ble_eq_true rfl) (Nat.le_of_ble_eq_true rfl) ⟨by rw [sp_MReader_fits, if_neg h1_0, if_neg h1_1, if_pos h1_2, if_neg h6, if_neg h7], rfl, rfl⟩
      ·
        by_cases h1_3 : k = 3
        ·
          refine zr_tableIn F 115 zd_MReader_fits_1 (by rw [h1_3]; decide) (by rw [h1_3]; decide) (by rw [h1_3]; rfl) (by decide) ?_
          refine zr_aload_n F zd_MReader_fits_115 rfl ?_
          refine zr_get F 14 7 zd_MReader_fits_116 hf rfl (by decide) zw_1513 rfl (by rfl) ?_
          refine zr_ldc F zd_MReader_fits_119 zw_1853 ?_
          refine zr_icmp_lt F 137 zd_MReader_fits_121 (by decide) (fun h8 => ?_) (fun h8 => ?_)
          ·
            refine zr_iconstv (v := 0) F zd_MReader_fits_137 (by decide) ?_
            exact zr_zret F hr rfl zd_MReader_fits_138 (Nat.le_of_ble_eq_true rfl) (Nat.le_of_ble_eq_true rfl) ⟨by rw [sp_MReader_fits, if_neg h1_0, if_neg h1_1, if_neg h1_2, if_pos h1_3, if_pos h8], rfl, rfl⟩
          ·
            refine zr_aload_n F zd_MReader_fits_124 rfl ?_
            refine zr_get F 14 7 zd_MReader_fits_125 hf rfl (by decide) zw_1513 rfl (by rfl) ?_
            refine zr_ldc F zd_MReader_fits_128 zw_1854 ?_
            refine zr_icmp_gt F 137 zd_MReader_fits_130 (by decide) (fun h9 => ?_) (fun h9 => ?_)
            ·
              refine zr_iconstv (v := 0) F zd_MReader_fits_137 (by decide) ?_
              exact zr_zret F hr rfl zd_MReader_fits_138 (Nat.le_of_ble_eq_true rfl) (Nat.le_of_ble_eq_true rfl) ⟨by rw [sp_MReader_fits, if_neg h1_0, if_neg h1_1, if_neg h1_2, if_pos h1_3, if_neg h8, if_pos h9], rfl, rfl⟩
            ·
              refine zr_iconstv (v := 1) F zd_MReader_fits_133 (by decide) ?_
              refine zr_goto F 138 zd_MReader_fits_134 (by decide) ?_
              exact zr_zret F hr rfl zd_MReader_fits_138 (Nat.le_of_ble_eq_true rfl) (Nat.le_of_ble_eq_true rfl) ⟨by rw [sp_MReader_fits, if_neg h1_0, if_neg h1_1, if_neg h1_2, if_pos h1_3, if_neg h8, if_neg h9], rfl, rfl⟩
        ·
          by_cases h1_4 : k = 4
          ·
            refine zr_tableIn F 139 zd_MReader_fits_1 (by rw [h1_4]; decide) (by rw [h1_4]; decide) (by rw [h1_4]; rfl) (by decide) ?_
            refine zr_aload_n F zd_MReader_fits_139 rfl ?_
            refine zr_get F 14 7 zd_MReader_fits_140 hf rfl (by decide) zw_1513 rfl (by rfl) ?_
            refine zr_if_lt F 158 zd_MReader_fits_143 (by decide) (fun h10 => ?_) (fun h10 => ?_)
            ·
              refine zr_iconstv (v := 0) F zd_MReader_fits_158 (by decide) ?_
              exact zr_zret F hr rfl zd_MReader_fits_159 (Nat.le_of_ble_eq_true rfl) (Nat.le_of_ble_eq_true rfl) ⟨by rw [sp_MReader_fits, if_neg h1_0, if_neg h1_1, if_neg h1_2, if_neg h1_3, if_pos h1_4, if_pos h10], rfl, rfl⟩
            ·
              refine zr_aload_n F zd_MReader_fits_146 rfl ?_
              refine zr_get F 14 7 zd_MReader_fits_147 hf rfl (by decide) zw_1513 rfl (by rfl) ?_
              refine zr_iload_n F zd_MReader_fits_150 rfl ?_
              refine zr_icmp_ge F 158 zd_MReader_fits_151 (by decide) (fun h11 => ?_) (fun h11 => ?_)
              ·
                refine zr_iconstv (v := 0) F zd_MReader_fits_158 (by decide) ?_
                exact zr_zret F hr rfl zd_MReader_fits_159 (Nat.le_of_ble_eq_true rfl) (Nat.le_of_ble_eq_true rfl) ⟨by rw [sp_MReader_fits, if_neg h1_0, if_neg h1_1, if_neg h1_2, if_neg h1_3, if_pos h1_4, if_neg h10, if_pos h11], rfl, rfl⟩
              ·
                refine zr_iconstv (v := 1) F zd_MReader_fits_154 (by decide) ?_
                refine zr_goto F 159 zd_MReader_fits_155 (by decide) ?_
                exact zr_zret F hr rfl zd_MReader_fits_159 (Nat.le_of_ble_eq_true rfl) (Nat.le_of_ble_eq_true rfl) ⟨by rw [sp_MReader_fits, if_neg h1_0, if_neg h1_1, if_neg h1_2, if_neg h1_3, if_pos h1_4, if_neg h10, if_neg h11], rfl, rfl⟩
          ·
            by_cases h1_5 : k = 5
            ·
              refine zr_tableIn F 160 zd_MReader_fits_1 (by rw [h1_5]; decide) (by rw [h1_5]; decide) (by rw [h1_5]; rfl) (by decide) ?_
              refine zr_aload_n F zd_MReader_fits_160 rfl ?_
              refine zr_get F 14 7 zd_MReader_fits_161 hf rfl (by decide) zw_1513 rfl (by rfl) ?_
              refine zr_ldc F zd_MReader_fits_164 zw_1855 ?_
              refine zr_icmp_lt F 182 zd_MReader_fits_166 (by decide) (fun h12 => ?_) (fun h12 => ?_)
              ·
                refine zr_iconstv (v := 0) F zd_MReader_fits_182 (by decide) ?_
                exact zr_zret F hr rfl zd_MReader_fits_183 (Nat.le_of_ble_eq_true rfl) (Nat.le_of_ble_eq_true rfl) ⟨by rw [sp_MReader_fits, if_neg h1_0, if_neg h1_1, if_neg h1_2, if_neg h1_3, if_neg h1_4, if_pos h1_5, if_pos h12], rfl, rfl⟩
              ·
                refine zr_aload_n F zd_MReader_fits_169 rfl ?_
                refine zr_get F 14 7 zd_MReader_fits_170 hf rfl (by decide) zw_1513 rfl (by rfl) ?_
                refine zr_ldc F zd_MReader_fits_173 zw_1856 ?_
                refine zr_icmp_gt F 182 zd_MReader_fits_175 (by decide) (fun h13 => ?_) (fun h13 => ?_)
                ·
                  refine zr_iconstv (v := 0) F zd_MReader_fits_182 (by decide) ?_
                  exact zr_zret F hr rfl zd_MReader_fits_183 (Nat.le_of_ble_eq_true rfl) (Nat.le_of_ble_eq_true rfl) ⟨by rw [sp_MReader_fits, if_neg h1_0, if_neg h1_1, if_neg h1_2, if_neg h1_3, if_neg h1_4, if_pos h1_5, if_neg h12, if_pos h13], rfl, rfl⟩
                ·
                  refine zr_iconstv (v := 1) F zd_MReader_fits_178 (by decide) ?_
                  refine zr_goto F 183 zd_MReader_fits_179 (by decide) ?_
                  exact zr_zret F hr rfl zd_MReader_fits_183 (Nat.le_of_ble_eq_true rfl) (Nat.le_of_ble_eq_true rfl) ⟨by rw [sp_MReader_fits, if_neg h1_0, if_neg h1_1, if_neg h1_2, if_neg h1_3, if_neg h1_4, if_pos h1_5, if_neg h12, if_neg h13], rfl, rfl⟩
            ·
              by_cases h1_6 : k = 6
              ·
                refine zr_tableIn F 184 zd_MReader_fits_1 (by rw [h1_6]; decide) (by rw [h1_6]; decide) (by rw [h1_6]; rfl) (by decide) ?_
                refine zr_aload_n F zd_MReader_fits_184 rfl ?_
                refine zr_get F 14 7 zd_MReader_fits_185 hf rfl (by decide) zw_1513 rfl (by rfl) ?_
                refine zr_ldc F zd_MReader_fits_188 zw_1849 ?_
                refine zr_icmp_lt F 206 zd_MReader_fits_190 (by decide) (fun h14 => ?_) (fun h14 => ?_)
                ·
                  refine zr_iconstv (v := 0) F zd_MReader_fits_206 (by decide) ?_
                  exact zr_zret F hr rfl zd_MReader_fits_207 (Nat.le_of_ble_eq_true rfl) (Nat.le_of_ble_eq_true rfl) ⟨by rw [sp_MReader_fits, if_neg h1_0, if_neg h1_1, if_neg h1_2, if_neg h1_3, if_neg h1_4, if_neg h1_5, if_pos h1_6, if_pos h14], rfl, rfl⟩
                ·
                  refine zr_aload_n F zd_MReader_fits_193 rfl ?_
                  refine zr_get F 14 7 zd_MReader_fits_194 hf rfl (by decide) zw_1513 rfl (by rfl) ?_
                  refine zr_ldc F zd_MReader_fits_197 zw_1850 ?_
                  refine zr_icmp_gt F 206 zd_MReader_fits_199 (by decide) (fun h15 => ?_) (fun h15 => ?_)
                  ·
                    refine zr_iconstv (v := 0) F zd_MReader_fits_206 (by decide) ?_
                    exact zr_zret F hr rfl zd_MReader_fits_207 (Nat.le_of_ble_eq_true rfl) (Nat.le_of_ble_eq_true rfl) ⟨by rw [sp_MReader_fits, if_neg h1_0, if_neg h1_1, if_neg h1_2, if_neg h1_3, if_neg h1_4, if_neg h1_5, if_pos h1_6, if_neg h14, if_pos h15], rfl, rfl⟩
                  ·
                    refine zr_iconstv (v := 1) F zd_MReader_fits_202 (by decide) ?_
                    refine zr_goto F 207 zd_MReader_fits_203 (by decide) ?_
                    exact zr_zret F hr rfl zd_MReader_fits_207 (Nat.le_of_ble_eq_true rfl) (Nat.le_of_ble_eq_true rfl) ⟨by rw [sp_MReader_fits, if_neg h1_0, if_neg h1_1, if_neg h1_2, if_neg h1_3, if_neg h1_4, if_neg h1_5, if_pos h1_6, if_neg h14, if_neg h15], rfl, rfl⟩
              ·
                refine zr_tableOut F 208 zd_MReader_fits_1 (zx_out k 0 6 (by decide) (by decide) (by decide) (by omega) (fun j hj => by match j, hj with | 0, _ => exact h1_0 | 1, _ => exact h1_1 | 2, _ => exact h1_2 | 3, _ => exact h1_3 | 4, _ => exact h1_4 | 5, _ => exact h1_5 | 6, _ => exact h1_6 | j + 7, hq => exact absurd hq (by omega))) (by decide) ?_
                refine zr_aload_n F zd_MReader_fits_208 rfl ?_
                refine zr_get F 14 7 zd_MReader_fits_209 hf rfl (by decide) zw_1513 rfl (by rfl) ?_
                refine zr_if_lt F 236 zd_MReader_fits_212 (by decide) (fun h16 => ?_) (fun h16 => ?_)
                ·
                  refine zr_iconstv (v := 0) F zd_MReader_fits_236 (by decide) ?_
                  exact zr_zret F hr rfl zd_MReader_fits_237 (Nat.le_of_ble_eq_true rfl) (Nat.le_of_ble_eq_true rfl) ⟨by rw [sp_MReader_fits, if_neg h1_0, if_neg h1_1, if_neg h1_2, if_neg h1_3, if_neg h1_4, if_neg h1_5, if_neg h1_6, if_pos h16], rfl, rfl⟩
                ·
                  refine zr_aload_n F zd_MReader_fits_215 rfl ?_
                  refine zr_get F 14 7 zd_MReader_fits_216 hf rfl (by decide) zw_1513 rfl (by rfl) ?_
                  refine zr_ldc F zd_MReader_fits_219 zw_1857 ?_
                  refine zr_icmp_gt F 236 zd_MReader_fits_221 (by decide) (fun h17 => ?_) (fun h17 => ?_)
                  ·
                    refine zr_iconstv (v := 0) F zd_MReader_fits_236 (by decide) ?_
                    exact zr_zret F hr rfl zd_MReader_fits_237 (Nat.le_of_ble_eq_true rfl) (Nat.le_of_ble_eq_true rfl) ⟨by rw [sp_MReader_fits, if_neg h1_0, if_neg h1_1, if_neg h1_2, if_neg h1_3, if_neg h1_4, if_neg h1_5, if_neg h1_6, if_neg h16, if_pos h17], rfl, rfl⟩
                  ·
                    refine zr_aload_n F zd_MReader_fits_224 rfl ?_
                    refine zr_get F 14 7 zd_MReader_fits_225 hf rfl (by decide) zw_1513 rfl (by rfl) ?_
                    refine zr_iload_n F zd_MReader_fits_228 rfl ?_
                    refine zr_icmp_le F 236 zd_MReader_fits_229 (by decide) (fun h18 => ?_) (fun h18 => ?_)
                    ·
                      refine zr_iconstv (v := 0) F zd_MReader_fits_236 (by decide) ?_
                      exact zr_zret F hr rfl zd_MReader_fits_237 (Nat.le_of_ble_eq_true rfl) (Nat.le_of_ble_eq_true rfl) ⟨by rw [sp_MReader_fits, if_neg h1_0, if_neg h1_1, if_neg h1_2, if_neg h1_3, if_neg h1_4, if_neg h1_5, if_neg h1_6, if_neg h16, if_neg h17, if_pos h18], rfl, rfl⟩
                    ·
                      refine zr_iconstv (v := 1) F zd_MReader_fits_232 (by decide) ?_
                      refine zr_goto F 237 zd_MReader_fits_233 (by decide) ?_
                      exact zr_zret F hr rfl zd_MReader_fits_237 (Nat.le_of_ble_eq_true rfl) (Nat.le_of_ble_eq_true rfl) ⟨by rw [sp_MReader_fits, if_neg h1_0, if_neg h1_1, if_neg h1_2, if_neg h1_3, if_neg h1_4, if_neg h1_5, if_neg h1_6, if_neg h16, if_neg h17, if_neg h18], rfl, rfl⟩
abbrev zb_MReader_byteAt : ByteArray := prog_17_method_3_code
def zy_MReader_byteAt : MethodName := ⟨"OrreryBoxModel$Reader", "byteAt", "(I)I"⟩
theorem zc_MReader_byteAt : Cond.code zy_MReader_byteAt zb_MReader_byteAt 2 (some .int) ∈ gw := gw_t 1776 (by decide +kernel) rfl
theorem zq_MReader_byteAt : zy_MReader_byteAt.cls ≠ "java/lang/invoke/MethodHandle" ∧ zy_MReader_byteAt.cls ≠ "java/lang/invoke/VarHandle" ∧ (parseMethodDescriptor zy_MReader_byteAt.desc).map (fun d => d.parameters.length) = some 1 := by decide +kernel
theorem zd_MReader_byteAt_0 : decode zb_MReader_byteAt 0 = .ok (.iload_n 1, 1) := by decide +kernel
theorem zd_MReader_byteAt_1 : decode zb_MReader_byteAt 1 = .ok (.aload_n 0, 1) := by decide +kernel
theorem zd_MReader_byteAt_2 : decode zb_MReader_byteAt 2 = .ok (.getfield 24, 3) := by decide +kernel
theorem zd_MReader_byteAt_5 : decode zb_MReader_byteAt 5 = .ok (.if_icmp .ge 16, 3) := by decide +kernel
theorem zd_MReader_byteAt_8 : decode zb_MReader_byteAt 8 = .ok (.aload_n 0, 1) := by decide +kernel
theorem zd_MReader_byteAt_9 : decode zb_MReader_byteAt 9 = .ok (.getfield 7, 3) := by decide +kernel
theorem zd_MReader_byteAt_12 : decode zb_MReader_byteAt 12 = .ok (.iload_n 1, 1) := by decide +kernel
theorem zd_MReader_byteAt_13 : decode zb_MReader_byteAt 13 = .ok (.baload, 1) := by decide +kernel
theorem zd_MReader_byteAt_14 : decode zb_MReader_byteAt 14 = .ok (.sipush 255, 3) := by decide +kernel
theorem zd_MReader_byteAt_17 : decode zb_MReader_byteAt 17 = .ok (.iand, 1) := by decide +kernel
theorem zd_MReader_byteAt_18 : decode zb_MReader_byteAt 18 = .ok (.goto 4, 3) := by decide +kernel
theorem zd_MReader_byteAt_21 : decode zb_MReader_byteAt 21 = .ok (.iconst (-1), 1) := by decide +kernel
theorem zd_MReader_byteAt_22 : decode zb_MReader_byteAt 22 = .ok (.ireturn, 1) := by decide +kernel
theorem zw_1506 : (Jvm.Cond.fieldLink "OrreryBoxModel$Reader" (24 : Nat) "OrreryBoxModel$Reader" "size" "I") ∈ gw := gw_t 1506 (by decide +kernel) rfl
def sp_MReader_byteAt (k : Int32) (ap : Int32) (wr : Int32) (wa : Int32) (na : Int32) (nu : Int32) (ii : Int32) (ls : Int32) (pt : Int32) (z : Nat) (gt : Nat → Int32) : Int32 := (if (nI z) ≤ k then (-1) else ((gt (k).toNatClampNeg) &&& 255))
set_option maxHeartbeats 4000000 in
set_option maxRecDepth 100000 in
theorem c_MReader_byteAt (l : Launch) (D : va_G) (tA : Nat → ClassId) (b : Nat) (f : zV) (n : Nat) (k : Int32) (ap : Int32) (wr : Int32) (wa : Int32) (na : Int32) (nu : Int32) (ii : Int32) (ls : Int32) (pt : Int32) (z : Nat) (gt : Nat → Int32) (hf : f 1277 = some (.inr (14, [.ref (b + 1186), .ref (b + 1217), .int (nI z), .int ap, .int wr, .int wa, .int na, .int nu, .int ii, .int ls, .int pt]))) (hg : f 1186 = some (.inl (tA 1, 65536, .inl (gt)))) (hz : z ≤ 65536) (hk : ¬ k < 0) : zM l D tA b zy_MReader_byteAt zb_MReader_byteAt 2 (some .int) 0 0 0 0 [.ref (b + 1277), .int k] f n (zE (some (.int (sp_MReader_byteAt k ap wr wa na nu ii ls pt z gt))) f n) := by
  refine zM_of (own := "OrreryBoxModel$Reader") (plainFor_of_name (by decide)) rfl (Nat.le_of_ble_eq_true rfl) (fun p e s m below meth c F hr hin hH => ?_)
  refine zr_iload_n F zd_MReader_byteAt_0 rfl ?_
  refine zr_aload_n F zd_MReader_byteAt_1 rfl ?_
  refine zr_get F 14 2 zd_MReader_byteAt_2 hf rfl (by decide) zw_1506 rfl (by rfl) ?_
  refine zr_icmp_ge F 21 zd_MReader_byteAt_5 (by decide) (fun h1 => ?_) (fun h1 => ?_)
  ·
    refine zr_iconstv (v := (-1)) F zd_MReader_byteAt_21 (by decide) ?_
    exact zr_iret F hr zd_MReader_byteAt_22 (Nat.le_of_ble_eq_true rfl) (Nat.le_of_ble_eq_true rfl) ⟨by rw [sp_MReader_byteAt, if_pos h1], rfl, rfl⟩
  ·
    refine zr_aload_n F zd_MReader_byteAt_8 rfl ?_
    refine zr_get F 14 0 zd_MReader_byteAt_9 hf rfl (by decide) zw_1504 rfl (by rfl) ?_
    refine zr_iload_n F zd_MReader_byteAt_12 rfl ?_
    refine zr_bald F zd_MReader_byteAt_13 hg (zx_cg hz (by decide) hk (by assumption)) ?_
    refine zr_sipushv (v := 255) F zd_MReader_byteAt_14 (by decide) ?_
    refine zr_iand F zd_MReader_byteAt_17 ?_
    refine zr_goto F 22 zd_MReader_byteAt_18 (by decide) ?_
    exact zr_iret F hr zd_MReader_byteAt_22 (Nat.le_of_ble_eq_true rfl) (Nat.le_of_ble_eq_true rfl) ⟨by rw [sp_MReader_byteAt, if_neg h1], rfl, rfl⟩
abbrev zb_XReader_sees : ByteArray := prog_8_method_17_code
def zy_XReader_sees : MethodName := ⟨"OrreryBox$Reader", "sees", "(C)Z"⟩
theorem zc_XReader_sees : Cond.code zy_XReader_sees zb_XReader_sees 2 (some .boolean) ∈ gw := gw_t 1093 (by decide +kernel) rfl
theorem zq_XReader_sees : zy_XReader_sees.cls ≠ "java/lang/invoke/MethodHandle" ∧ zy_XReader_sees.cls ≠ "java/lang/invoke/VarHandle" ∧ (parseMethodDescriptor zy_XReader_sees.desc).map (fun d => d.parameters.length) = some 1 := by decide +kernel
theorem zd_XReader_sees_0 : decode zb_XReader_sees 0 = .ok (.aload_n 0, 1) := by decide +kernel
theorem zd_XReader_sees_1 : decode zb_XReader_sees 1 = .ok (.getfield 27, 3) := by decide +kernel
theorem zd_XReader_sees_4 : decode zb_XReader_sees 4 = .ok (.aload_n 0, 1) := by decide +kernel
theorem zd_XReader_sees_5 : decode zb_XReader_sees 5 = .ok (.getfield 19, 3) := by decide +kernel
theorem zd_XReader_sees_8 : decode zb_XReader_sees 8 = .ok (.if_icmp .ge 20, 3) := by decide +kernel
theorem zd_XReader_sees_11 : decode zb_XReader_sees 11 = .ok (.aload_n 0, 1) := by decide +kernel
theorem zd_XReader_sees_12 : decode zb_XReader_sees 12 = .ok (.getfield 15, 3) := by decide +kernel
theorem zd_XReader_sees_15 : decode zb_XReader_sees 15 = .ok (.aload_n 0, 1) := by decide +kernel
theorem zd_XReader_sees_16 : decode zb_XReader_sees 16 = .ok (.getfield 27, 3) := by decide +kernel
theorem zd_XReader_sees_19 : decode zb_XReader_sees 19 = .ok (.baload, 1) := by decide +kernel
theorem zd_XReader_sees_20 : decode zb_XReader_sees 20 = .ok (.iload_n 1, 1) := by decide +kernel
theorem zd_XReader_sees_21 : decode zb_XReader_sees 21 = .ok (.if_icmp .ne 7, 3) := by decide +kernel
theorem zd_XReader_sees_24 : decode zb_XReader_sees 24 = .ok (.iconst 1, 1) := by decide +kernel
theorem zd_XReader_sees_25 : decode zb_XReader_sees 25 = .ok (.goto 4, 3) := by decide +kernel
theorem zd_XReader_sees_28 : decode zb_XReader_sees 28 = .ok (.iconst 0, 1) := by decide +kernel
theorem zd_XReader_sees_29 : decode zb_XReader_sees 29 = .ok (.ireturn, 1) := by decide +kernel
theorem zw_53 : (Jvm.Cond.fieldLink "OrreryBox$Reader" (27 : Nat) "OrreryBox$Reader" "at" "I") ∈ gw := gw_t 53 (by decide +kernel) rfl
theorem zw_52 : (Jvm.Cond.fieldLink "OrreryBox$Reader" (19 : Nat) "OrreryBox$Reader" "length" "I") ∈ gw := gw_t 52 (by decide +kernel) rfl
theorem zw_51 : (Jvm.Cond.fieldLink "OrreryBox$Reader" (15 : Nat) "OrreryBox$Reader" "text" "[B") ∈ gw := gw_t 51 (by decide +kernel) rfl
def sp_XReader_sees (c : Int32) (wr : Int32) (wa : Int32) (z : Nat) (at0 : Nat) (na : Int32) (rs : Value) (gt : Nat → Int32) : Int32 := (if (nI z) ≤ (nI at0) then 0 else (if (gt ((nI at0)).toNatClampNeg) = c then 1 else 0))
set_option maxHeartbeats 4000000 in
set_option maxRecDepth 100000 in
theorem c_XReader_sees (l : Launch) (D : va_G) (tA : Nat → ClassId) (b : Nat) (f : zV) (n : Nat) (c : Int32) (wr : Int32) (wa : Int32) (z : Nat) (at0 : Nat) (na : Int32) (rs : Value) (gt : Nat → Int32) (hf : f 3 = some (.inr (7, [.int wr, .int wa, .ref (b + 4), .ref (b + 1), .int (nI z), .int (nI at0), .int na, rs]))) (hg : f 1 = some (.inl (tA 1, 65536, .inl (gt)))) (hz : z ≤ 65536) (ha : at0 ≤ 65536) : zM l D tA b zy_XReader_sees zb_XReader_sees 2 (some .boolean) 0 0 0 0 [.ref (b + 3), .int c] f n (zE (some (.int (sp_XReader_sees c wr wa z at0 na rs gt))) f n) := by
  refine zM_of (own := "OrreryBox$Reader") (plainFor_of_name (by decide)) rfl (Nat.le_of_ble_eq_true rfl) (fun p e s m below meth c F hr hin hH => ?_)
  refine zr_aload_n F zd_XReader_sees_0 rfl ?_
  refine zr_get F 7 5 zd_XReader_sees_1 hf rfl (by decide) zw_53 rfl (by rfl) ?_
  refine zr_aload_n F zd_XReader_sees_4 rfl ?_
  refine zr_get F 7 4 zd_XReader_sees_5 hf rfl (by decide) zw_52 rfl (by rfl) ?_
  refine zr_icmp_ge F 28 zd_XReader_sees_8 (by decide) (fun h1 => ?_) (fun h1 => ?_)
  ·
    refine zr_iconstv (v := 0) F zd_XReader_sees_28 (by decide) ?_
    exact zr_zret F hr rfl zd_XReader_sees_29 (Nat.le_of_ble_eq_true rfl) (Nat.le_of_ble_eq_true rfl) ⟨by rw [sp_XReader_sees, if_pos h1], rfl, rfl⟩
  ·
    refine zr_aload_n F zd_XReader_sees_11 rfl ?_
    refine zr_get F 7 3 zd_XReader_sees_12 hf rfl (by decide) zw_51 rfl (by rfl) ?_
    refine zr_aload_n F zd_XReader_sees_15 rfl ?_
    refine zr_get F 7 5 zd_XReader_sees_16 hf rfl (by decide) zw_53 rfl (by rfl) ?_
    refine zr_bald F zd_XReader_sees_19 hg (zx_ch hz ha (by decide) (by assumption)) ?_
    refine zr_iload_n F zd_XReader_sees_20 rfl ?_
    refine zr_icmp_ne F 28 zd_XReader_sees_21 (by decide) (fun h2 => ?_) (fun h2 => ?_)
    ·
      refine zr_iconstv (v := 0) F zd_XReader_sees_28 (by decide) ?_
      exact zr_zret F hr rfl zd_XReader_sees_29 (Nat.le_of_ble_eq_true rfl) (Nat.le_of_ble_eq_true rfl) ⟨by rw [sp_XReader_sees, if_neg h1, if_neg h2], rfl, rfl⟩
    ·
      refine zr_iconstv (v := 1) F zd_XReader_sees_24 (by decide) ?_
      refine zr_goto F 29 zd_XReader_sees_25 (by decide) ?_
      exact zr_zret F hr rfl zd_XReader_sees_29 (Nat.le_of_ble_eq_true rfl) (Nat.le_of_ble_eq_true rfl) ⟨by rw [sp_XReader_sees, if_neg h1, if_pos h2], rfl, rfl⟩
