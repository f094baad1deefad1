def zx_max (x y : Int32) : Int32 := if x < y then y else x
def zx_min (x y : Int32) : Int32 := if y < x then y else x
def zx_maxl (x y : Int64) : Int64 := if lg_cmp x y < 0 then y else x
def zx_minl (x y : Int64) : Int64 := if 0 < lg_cmp x y then y else x
/-- floorDiv as the JDK has it -/
def zx_fdiv (x y : Int64) : Int64 := if 0 ≤ lg_cmp (x ^^^ y) 0 then x / y else if lg_cmp (x / y * y) x = 0 then x / y else x / y - 1
def zx_mul (x y : Int64) : Int64 := (x * y) >>> ((16 : Int32).toInt64 &&& 63)
def zx_div (x y : Int64) : Int64 := if lg_cmp y 0 = 0 then 0 else zx_fdiv x y
def zx_bound (x : Int64) : Int32 := (zx_maxl (-16777216) (zx_minl 16777216 x)).toInt32
abbrev zb_JMath_max : ByteArray := prog_21_method_65_code
def zy_JMath_max : MethodName := ⟨"java/lang/Math", "max", "(II)I"⟩
theorem zc_JMath_max : Cond.code zy_JMath_max zb_JMath_max 2 (some .int) ∈ gw := gw_t 125 (by decide +kernel) rfl
theorem zq_JMath_max : zy_JMath_max.cls ≠ "java/lang/invoke/MethodHandle" ∧ zy_JMath_max.cls ≠ "java/lang/invoke/VarHandle" ∧ (parseMethodDescriptor zy_JMath_max.desc).map (fun d => d.parameters.length) = some 2 := by decide +kernel
theorem zd_JMath_max_0 : decode zb_JMath_max 0 = .ok (.iload_n 0, 1) := by decide +kernel
theorem zd_JMath_max_1 : decode zb_JMath_max 1 = .ok (.iload_n 1, 1) := by decide +kernel
theorem zd_JMath_max_2 : decode zb_JMath_max 2 = .ok (.if_icmp .lt 7, 3) := by decide +kernel
theorem zd_JMath_max_5 : decode zb_JMath_max 5 = .ok (.iload_n 0, 1) := by decide +kernel
theorem zd_JMath_max_6 : decode zb_JMath_max 6 = .ok (.goto 4, 3) := by decide +kernel
theorem zd_JMath_max_9 : decode zb_JMath_max 9 = .ok (.iload_n 1, 1) := by decide +kernel
theorem zd_JMath_max_10 : decode zb_JMath_max 10 = .ok (.ireturn, 1) := by decide +kernel
set_option maxHeartbeats 4000000 in
set_option maxRecDepth 100000 in
theorem c_JMath_max (l : Launch) (D : va_G) (tA : Nat → ClassId) (b : Nat) (f : zV) (n : Nat) (x y : Int32)  : zM l D tA b zy_JMath_max zb_JMath_max 2 (some .int) 0 0 0 0 [.int x, .int y] f n (zE (some (.int (zx_max x y))) f n) := by
  refine zM_of (own := "java/lang/Math") (by decide +kernel) rfl (Nat.le_of_ble_eq_true rfl) (fun p e s m below meth c F hr hin hH => ?_)
  refine zr_iload_n F zd_JMath_max_0 rfl ?_
  refine zr_iload_n F zd_JMath_max_1 rfl ?_
  refine zr_icmp_lt F 9 zd_JMath_max_2 (by decide) (fun h => ?_) (fun h => ?_)
  ·
    refine zr_iload_n F zd_JMath_max_9 rfl ?_
    exact zr_iret F hr zd_JMath_max_10 (Nat.le_of_ble_eq_true rfl) (Nat.le_of_ble_eq_true rfl) ⟨by rw [zx_max, if_pos h], rfl, rfl⟩
  ·
    refine zr_iload_n F zd_JMath_max_5 rfl ?_
    refine zr_goto F 10 zd_JMath_max_6 (by decide) ?_
    exact zr_iret F hr zd_JMath_max_10 (Nat.le_of_ble_eq_true rfl) (Nat.le_of_ble_eq_true rfl) ⟨by rw [zx_max, if_neg h], rfl, rfl⟩
abbrev zb_JMath_min : ByteArray := prog_21_method_69_code
def zy_JMath_min : MethodName := ⟨"java/lang/Math", "min", "(II)I"⟩
theorem zc_JMath_min : Cond.code zy_JMath_min zb_JMath_min 2 (some .int) ∈ gw := gw_t 122 (by decide +kernel) rfl
theorem zq_JMath_min : zy_JMath_min.cls ≠ "java/lang/invoke/MethodHandle" ∧ zy_JMath_min.cls ≠ "java/lang/invoke/VarHandle" ∧ (parseMethodDescriptor zy_JMath_min.desc).map (fun d => d.parameters.length) = some 2 := by decide +kernel
theorem zd_JMath_min_0 : decode zb_JMath_min 0 = .ok (.iload_n 0, 1) := by decide +kernel
theorem zd_JMath_min_1 : decode zb_JMath_min 1 = .ok (.iload_n 1, 1) := by decide +kernel
theorem zd_JMath_min_2 : decode zb_JMath_min 2 = .ok (.if_icmp .gt 7, 3) := by decide +kernel
theorem zd_JMath_min_5 : decode zb_JMath_min 5 = .ok (.iload_n 0, 1) := by decide +kernel
theorem zd_JMath_min_6 : decode zb_JMath_min 6 = .ok (.goto 4, 3) := by decide +kernel
theorem zd_JMath_min_9 : decode zb_JMath_min 9 = .ok (.iload_n 1, 1) := by decide +kernel
theorem zd_JMath_min_10 : decode zb_JMath_min 10 = .ok (.ireturn, 1) := by decide +kernel
set_option maxHeartbeats 4000000 in
set_option maxRecDepth 100000 in
theorem c_JMath_min (l : Launch) (D : va_G) (tA : Nat → ClassId) (b : Nat) (f : zV) (n : Nat) (x y : Int32)  : zM l D tA b zy_JMath_min zb_JMath_min 2 (some .int) 0 0 0 0 [.int x, .int y] f n (zE (some (.int (zx_min x y))) f n) := by
  refine zM_of (own := "java/lang/Math") (by decide +kernel) rfl (Nat.le_of_ble_eq_true rfl) (fun p e s m below meth c F hr hin hH => ?_)
  refine zr_iload_n F zd_JMath_min_0 rfl ?_
  refine zr_iload_n F zd_JMath_min_1 rfl ?_
  refine zr_icmp_gt F 9 zd_JMath_min_2 (by decide) (fun h => ?_) (fun h => ?_)
  ·
    refine zr_iload_n F zd_JMath_min_9 rfl ?_
    exact zr_iret F hr zd_JMath_min_10 (Nat.le_of_ble_eq_true rfl) (Nat.le_of_ble_eq_true rfl) ⟨by rw [zx_min, if_pos h], rfl, rfl⟩
  ·
    refine zr_iload_n F zd_JMath_min_5 rfl ?_
    refine zr_goto F 10 zd_JMath_min_6 (by decide) ?_
    exact zr_iret F hr zd_JMath_min_10 (Nat.le_of_ble_eq_true rfl) (Nat.le_of_ble_eq_true rfl) ⟨by rw [zx_min, if_neg h], rfl, rfl⟩
abbrev zb_JMath_max2 : ByteArray := prog_21_method_66_code
def zy_JMath_max2 : MethodName := ⟨"java/lang/Math", "max", "(JJ)J"⟩
theorem zc_JMath_max2 : Cond.code zy_JMath_max2 zb_JMath_max2 4 (some .long) ∈ gw := gw_t 656 (by decide +kernel) rfl
theorem zq_JMath_max2 : zy_JMath_max2.cls ≠ "java/lang/invoke/MethodHandle" ∧ zy_JMath_max2.cls ≠ "java/lang/invoke/VarHandle" ∧ (parseMethodDescriptor zy_JMath_max2.desc).map (fun d => d.parameters.length) = some 2 := by decide +kernel
theorem zd_JMath_max2_0 : decode zb_JMath_max2 0 = .ok (.lload_n 0, 1) := by decide +kernel
theorem zd_JMath_max2_1 : decode zb_JMath_max2 1 = .ok (.lload_n 2, 1) := by decide +kernel
theorem zd_JMath_max2_2 : decode zb_JMath_max2 2 = .ok (.lcmp, 1) := by decide +kernel
theorem zd_JMath_max2_3 : decode zb_JMath_max2 3 = .ok (.ifCond .lt 7, 3) := by decide +kernel
theorem zd_JMath_max2_6 : decode zb_JMath_max2 6 = .ok (.lload_n 0, 1) := by decide +kernel
theorem zd_JMath_max2_7 : decode zb_JMath_max2 7 = .ok (.goto 4, 3) := by decide +kernel
theorem zd_JMath_max2_10 : decode zb_JMath_max2 10 = .ok (.lload_n 2, 1) := by decide +kernel
theorem zd_JMath_max2_11 : decode zb_JMath_max2 11 = .ok (.lreturn, 1) := by decide +kernel
set_option maxHeartbeats 4000000 in
set_option maxRecDepth 100000 in
theorem c_JMath_max2 (l : Launch) (D : va_G) (tA : Nat → ClassId) (b : Nat) (f : zV) (n : Nat) (x y : Int64)  : zM l D tA b zy_JMath_max2 zb_JMath_max2 4 (some .long) 0 0 0 0 [.long x, .long y] f n (zE (some (.long (zx_maxl x y))) f n) := by
  refine zM_of (own := "java/lang/Math") (by decide +kernel) rfl (Nat.le_of_ble_eq_true rfl) (fun p e s m below meth c F hr hin hH => ?_)
  refine zr_lload_n F zd_JMath_max2_0 rfl ?_
  refine zr_lload_n F zd_JMath_max2_1 rfl ?_
  refine zr_lcmp F zd_JMath_max2_2 ?_
  refine zr_if_lt F 10 zd_JMath_max2_3 (by decide) (fun h => ?_) (fun h => ?_)
  ·
    refine zr_lload_n F zd_JMath_max2_10 rfl ?_
    exact zr_lret F hr zd_JMath_max2_11 (Nat.le_of_ble_eq_true rfl) (Nat.le_of_ble_eq_true rfl) ⟨by rw [zx_maxl, if_pos h], rfl, rfl⟩
  ·
    refine zr_lload_n F zd_JMath_max2_6 rfl ?_
    refine zr_goto F 11 zd_JMath_max2_7 (by decide) ?_
    exact zr_lret F hr zd_JMath_max2_11 (Nat.le_of_ble_eq_true rfl) (Nat.le_of_ble_eq_true rfl) ⟨by rw [zx_maxl, if_neg h], rfl, rfl⟩
abbrev zb_JMath_min2 : ByteArray := prog_21_method_70_code
def zy_JMath_min2 : MethodName := ⟨"java/lang/Math", "min", "(JJ)J"⟩
theorem zc_JMath_min2 : Cond.code zy_JMath_min2 zb_JMath_min2 4 (some .long) ∈ gw := gw_t 653 (by decide +kernel) rfl
theorem zq_JMath_min2 : zy_JMath_min2.cls ≠ "java/lang/invoke/MethodHandle" ∧ zy_JMath_min2.cls ≠ "java/lang/invoke/VarHandle" ∧ (parseMethodDescriptor zy_JMath_min2.desc).map (fun d => d.parameters.length) = some 2 := by decide +kernel
theorem zd_JMath_min2_0 : decode zb_JMath_min2 0 = .ok (.lload_n 0, 1) := by decide +kernel
theorem zd_JMath_min2_1 : decode zb_JMath_min2 1 = .ok (.lload_n 2, 1) := by decide +kernel
theorem zd_JMath_min2_2 : decode zb_JMath_min2 2 = .ok (.lcmp, 1) := by decide +kernel
theorem zd_JMath_min2_3 : decode zb_JMath_min2 3 = .ok (.ifCond .gt 7, 3) := by decide +kernel
theorem zd_JMath_min2_6 : decode zb_JMath_min2 6 = .ok (.lload_n 0, 1) := by decide +kernel
theorem zd_JMath_min2_7 : decode zb_JMath_min2 7 = .ok (.goto 4, 3) := by decide +kernel
theorem zd_JMath_min2_10 : decode zb_JMath_min2 10 = .ok (.lload_n 2, 1) := by decide +kernel
theorem zd_JMath_min2_11 : decode zb_JMath_min2 11 = .ok (.lreturn, 1) := by decide +kernel
set_option maxHeartbeats 4000000 in
set_option maxRecDepth 100000 in
theorem c_JMath_min2 (l : Launch) (D : va_G) (tA : Nat → ClassId) (b : Nat) (f : zV) (n : Nat) (x y : Int64)  : zM l D tA b zy_JMath_min2 zb_JMath_min2 4 (some .long) 0 0 0 0 [.long x, .long y] f n (zE (some (.long (zx_minl x y))) f n) := by
  refine zM_of (own := "java/lang/Math") (by decide +kernel) rfl (Nat.le_of_ble_eq_true rfl) (fun p e s m below meth c F hr hin hH => ?_)
  refine zr_lload_n F zd_JMath_min2_0 rfl ?_
  refine zr_lload_n F zd_JMath_min2_1 rfl ?_
  refine zr_lcmp F zd_JMath_min2_2 ?_
  refine zr_if_gt F 10 zd_JMath_min2_3 (by decide) (fun h => ?_) (fun h => ?_)
  ·
    refine zr_lload_n F zd_JMath_min2_10 rfl ?_
    exact zr_lret F hr zd_JMath_min2_11 (Nat.le_of_ble_eq_true rfl) (Nat.le_of_ble_eq_true rfl) ⟨by rw [zx_minl, if_pos h], rfl, rfl⟩
  ·
    refine zr_lload_n F zd_JMath_min2_6 rfl ?_
    refine zr_goto F 11 zd_JMath_min2_7 (by decide) ?_
    exact zr_lret F hr zd_JMath_min2_11 (Nat.le_of_ble_eq_true rfl) (Nat.le_of_ble_eq_true rfl) ⟨by rw [zx_minl, if_neg h], rfl, rfl⟩
abbrev zb_JMath_floorDiv : ByteArray := prog_21_method_49_code
def zy_JMath_floorDiv : MethodName := ⟨"java/lang/Math", "floorDiv", "(JJ)J"⟩
theorem zc_JMath_floorDiv : Cond.code zy_JMath_floorDiv zb_JMath_floorDiv 6 (some .long) ∈ gw := gw_t 575 (by decide +kernel) rfl
theorem zq_JMath_floorDiv : zy_JMath_floorDiv.cls ≠ "java/lang/invoke/MethodHandle" ∧ zy_JMath_floorDiv.cls ≠ "java/lang/invoke/VarHandle" ∧ (parseMethodDescriptor zy_JMath_floorDiv.desc).map (fun d => d.parameters.length) = some 2 := by decide +kernel
theorem zd_JMath_floorDiv_0 : decode zb_JMath_floorDiv 0 = .ok (.lload_n 0, 1) := by decide +kernel
theorem zd_JMath_floorDiv_1 : decode zb_JMath_floorDiv 1 = .ok (.lload_n 2, 1) := by decide +kernel
theorem zd_JMath_floorDiv_2 : decode zb_JMath_floorDiv 2 = .ok (.ldiv, 1) := by decide +kernel
theorem zd_JMath_floorDiv_3 : decode zb_JMath_floorDiv 3 = .ok (.lstore 4, 2) := by decide +kernel
theorem zd_JMath_floorDiv_5 : decode zb_JMath_floorDiv 5 = .ok (.lload_n 0, 1) := by decide +kernel
theorem zd_JMath_floorDiv_6 : decode zb_JMath_floorDiv 6 = .ok (.lload_n 2, 1) := by decide +kernel
theorem zd_JMath_floorDiv_7 : decode zb_JMath_floorDiv 7 = .ok (.lxor, 1) := by decide +kernel
theorem zd_JMath_floorDiv_8 : decode zb_JMath_floorDiv 8 = .ok (.lconst 0, 1) := by decide +kernel
theorem zd_JMath_floorDiv_9 : decode zb_JMath_floorDiv 9 = .ok (.lcmp, 1) := by decide +kernel
theorem zd_JMath_floorDiv_10 : decode zb_JMath_floorDiv 10 = .ok (.ifCond .ge 17, 3) := by decide +kernel
theorem zd_JMath_floorDiv_13 : decode zb_JMath_floorDiv 13 = .ok (.lload 4, 2) := by decide +kernel
theorem zd_JMath_floorDiv_15 : decode zb_JMath_floorDiv 15 = .ok (.lload_n 2, 1) := by decide +kernel
theorem zd_JMath_floorDiv_16 : decode zb_JMath_floorDiv 16 = .ok (.lmul, 1) := by decide +kernel
theorem zd_JMath_floorDiv_17 : decode zb_JMath_floorDiv 17 = .ok (.lload_n 0, 1) := by decide +kernel
theorem zd_JMath_floorDiv_18 : decode zb_JMath_floorDiv 18 = .ok (.lcmp, 1) := by decide +kernel
theorem zd_JMath_floorDiv_19 : decode zb_JMath_floorDiv 19 = .ok (.ifCond .eq 8, 3) := by decide +kernel
theorem zd_JMath_floorDiv_22 : decode zb_JMath_floorDiv 22 = .ok (.lload 4, 2) := by decide +kernel
theorem zd_JMath_floorDiv_24 : decode zb_JMath_floorDiv 24 = .ok (.lconst 1, 1) := by decide +kernel
theorem zd_JMath_floorDiv_25 : decode zb_JMath_floorDiv 25 = .ok (.lsub, 1) := by decide +kernel
theorem zd_JMath_floorDiv_26 : decode zb_JMath_floorDiv 26 = .ok (.lreturn, 1) := by decide +kernel
theorem zd_JMath_floorDiv_27 : decode zb_JMath_floorDiv 27 = .ok (.lload 4, 2) := by decide +kernel
theorem zd_JMath_floorDiv_29 : decode zb_JMath_floorDiv 29 = .ok (.lreturn, 1) := by decide +kernel
set_option maxHeartbeats 4000000 in
set_option maxRecDepth 100000 in
theorem c_JMath_floorDiv (l : Launch) (D : va_G) (tA : Nat → ClassId) (b : Nat) (f : zV) (n : Nat) (x y : Int64) (hy : ¬ y = 0) : zM l D tA b zy_JMath_floorDiv zb_JMath_floorDiv 6 (some .long) 0 0 0 0 [.long x, .long y] f n (zE (some (.long (zx_fdiv x y))) f n) := by
  refine zM_of (own := "java/lang/Math") (by decide +kernel) rfl (Nat.le_of_ble_eq_true rfl) (fun p e s m below meth c F hr hin hH => ?_)
  refine zr_lload_n F zd_JMath_floorDiv_0 rfl ?_
  refine zr_lload_n F zd_JMath_floorDiv_1 rfl ?_
  refine zr_ldiv F zd_JMath_floorDiv_2 hy ?_
  refine zr_lstore F zd_JMath_floorDiv_3 (by decide) ?_
  refine zr_lload_n F zd_JMath_floorDiv_5 rfl ?_
  refine zr_lload_n F zd_JMath_floorDiv_6 rfl ?_
  refine zr_lxor F zd_JMath_floorDiv_7 ?_
  refine zr_lconstv (v := 0) F zd_JMath_floorDiv_8 (by decide) ?_
  refine zr_lcmp F zd_JMath_floorDiv_9 ?_
  refine zr_if_ge F 27 zd_JMath_floorDiv_10 (by decide) (fun h => ?_) (fun h => ?_)
  ·
    refine zr_lload F zd_JMath_floorDiv_27 rfl ?_
    exact zr_lret F hr zd_JMath_floorDiv_29 (Nat.le_of_ble_eq_true rfl) (Nat.le_of_ble_eq_true rfl) ⟨by rw [zx_fdiv, if_pos h], rfl, rfl⟩
  ·
    refine zr_lload F zd_JMath_floorDiv_13 rfl ?_
    refine zr_lload_n F zd_JMath_floorDiv_15 rfl ?_
    refine zr_lmul F zd_JMath_floorDiv_16 ?_
    refine zr_lload_n F zd_JMath_floorDiv_17 rfl ?_
    refine zr_lcmp F zd_JMath_floorDiv_18 ?_
    refine zr_if_eq F 27 zd_JMath_floorDiv_19 (by decide) (fun h2 => ?_) (fun h2 => ?_)
    ·
      refine zr_lload F zd_JMath_floorDiv_27 rfl ?_
      exact zr_lret F hr zd_JMath_floorDiv_29 (Nat.le_of_ble_eq_true rfl) (Nat.le_of_ble_eq_true rfl) ⟨by rw [zx_fdiv, if_neg h, if_pos h2], rfl, rfl⟩
    ·
      refine zr_lload F zd_JMath_floorDiv_22 rfl ?_
      refine zr_lconstv (v := 1) F zd_JMath_floorDiv_24 (by decide) ?_
      refine zr_lsub F zd_JMath_floorDiv_25 ?_
      exact zr_lret F hr zd_JMath_floorDiv_26 (Nat.le_of_ble_eq_true rfl) (Nat.le_of_ble_eq_true rfl) ⟨by rw [zx_fdiv, if_neg h, if_neg h2], rfl, rfl⟩
abbrev zb_XFixed_mul : ByteArray := prog_2_method_3_code
def zy_XFixed_mul : MethodName := ⟨"OrreryBox$Fixed", "mul", "(JJ)J"⟩
theorem zc_XFixed_mul : Cond.code zy_XFixed_mul zb_XFixed_mul 4 (some .long) ∈ gw := gw_t 579 (by decide +kernel) rfl
theorem zq_XFixed_mul : zy_XFixed_mul.cls ≠ "java/lang/invoke/MethodHandle" ∧ zy_XFixed_mul.cls ≠ "java/lang/invoke/VarHandle" ∧ (parseMethodDescriptor zy_XFixed_mul.desc).map (fun d => d.parameters.length) = some 2 := by decide +kernel
theorem zd_XFixed_mul_0 : decode zb_XFixed_mul 0 = .ok (.lload_n 0, 1) := by decide +kernel
theorem zd_XFixed_mul_1 : decode zb_XFixed_mul 1 = .ok (.lload_n 2, 1) := by decide +kernel
theorem zd_XFixed_mul_2 : decode zb_XFixed_mul 2 = .ok (.lmul, 1) := by decide +kernel
theorem zd_XFixed_mul_3 : decode zb_XFixed_mul 3 = .ok (.bipush 16, 2) := by decide +kernel
theorem zd_XFixed_mul_5 : decode zb_XFixed_mul 5 = .ok (.lshr, 1) := by decide +kernel
theorem zd_XFixed_mul_6 : decode zb_XFixed_mul 6 = .ok (.lreturn, 1) := by decide +kernel
set_option maxHeartbeats 4000000 in
set_option maxRecDepth 100000 in
theorem c_XFixed_mul (l : Launch) (D : va_G) (tA : Nat → ClassId) (b : Nat) (f : zV) (n : Nat) (x y : Int64)  : zM l D tA b zy_XFixed_mul zb_XFixed_mul 4 (some .long) 0 0 0 0 [.long x, .long y] f n (zE (some (.long (zx_mul x y))) f n) := by
  refine zM_of (own := "OrreryBox$Fixed") (by decide +kernel) rfl (Nat.le_of_ble_eq_true rfl) (fun p e s m below meth c F hr hin hH => ?_)
  refine zr_lload_n F zd_XFixed_mul_0 rfl ?_
  refine zr_lload_n F zd_XFixed_mul_1 rfl ?_
  refine zr_lmul F zd_XFixed_mul_2 ?_
  refine zr_bipushv (v := 16) F zd_XFixed_mul_3 (by decide) ?_
  refine zr_lshr F zd_XFixed_mul_5 ?_
  exact zr_lret F hr zd_XFixed_mul_6 (Nat.le_of_ble_eq_true rfl) (Nat.le_of_ble_eq_true rfl) ⟨rfl, rfl, rfl⟩
theorem zx_cmp0 {y : Int64} (h : ¬ lg_cmp y 0 = 0) : ¬ y = 0 := fun e => h (by rw [e]; rfl)
abbrev zb_XFixed_div : ByteArray := prog_2_method_2_code
def zy_XFixed_div : MethodName := ⟨"OrreryBox$Fixed", "div", "(JJ)J"⟩
theorem zc_XFixed_div : Cond.code zy_XFixed_div zb_XFixed_div 4 (some .long) ∈ gw := gw_t 572 (by decide +kernel) rfl
theorem zq_XFixed_div : zy_XFixed_div.cls ≠ "java/lang/invoke/MethodHandle" ∧ zy_XFixed_div.cls ≠ "java/lang/invoke/VarHandle" ∧ (parseMethodDescriptor zy_XFixed_div.desc).map (fun d => d.parameters.length) = some 2 := by decide +kernel
theorem zd_XFixed_div_0 : decode zb_XFixed_div 0 = .ok (.lload_n 2, 1) := by decide +kernel
theorem zd_XFixed_div_1 : decode zb_XFixed_div 1 = .ok (.lconst 0, 1) := by decide +kernel
theorem zd_XFixed_div_2 : decode zb_XFixed_div 2 = .ok (.lcmp, 1) := by decide +kernel
theorem zd_XFixed_div_3 : decode zb_XFixed_div 3 = .ok (.ifCond .ne 7, 3) := by decide +kernel
theorem zd_XFixed_div_6 : decode zb_XFixed_div 6 = .ok (.lconst 0, 1) := by decide +kernel
theorem zd_XFixed_div_7 : decode zb_XFixed_div 7 = .ok (.goto 8, 3) := by decide +kernel
theorem zd_XFixed_div_10 : decode zb_XFixed_div 10 = .ok (.lload_n 0, 1) := by decide +kernel
theorem zd_XFixed_div_11 : decode zb_XFixed_div 11 = .ok (.lload_n 2, 1) := by decide +kernel
theorem zd_XFixed_div_12 : decode zb_XFixed_div 12 = .ok (.invokestatic 7, 3) := by decide +kernel
theorem zd_XFixed_div_15 : decode zb_XFixed_div 15 = .ok (.lreturn, 1) := by decide +kernel
theorem zw_573 : (Jvm.Cond.methodLink "OrreryBox$Fixed" (7 : Nat) ({ cls := "java/lang/Math", name := "floorDiv", desc := "(JJ)J" } : Jvm.MethodName)) ∈ gw := gw_t 573 (by decide +kernel) rfl
theorem zw_574 : (Jvm.Cond.static ({ cls := "java/lang/Math", name := "floorDiv", desc := "(JJ)J" } : Jvm.MethodName)) ∈ gw := gw_t 574 (by decide +kernel) rfl
theorem zw_4 : (Jvm.Cond.initialized "java/lang/Math") ∈ gw := gw_t 4 (by decide +kernel) rfl
theorem zs_XFixed_7 : zwS "OrreryBox$Fixed" 7 zy_JMath_floorDiv zb_JMath_floorDiv 6 (some .long) := ⟨zw_573, zw_574, zw_4, zc_JMath_floorDiv⟩
set_option maxHeartbeats 4000000 in
set_option maxRecDepth 100000 in
theorem c_XFixed_div (l : Launch) (D : va_G) (tA : Nat → ClassId) (b : Nat) (f : zV) (n : Nat) (x y : Int64)  : zM l D tA b zy_XFixed_div zb_XFixed_div 4 (some .long) 1 25 0 0 [.long x, .long y] f n (zE (some (.long (zx_div x y))) f n) := by
  refine zM_of (own := "OrreryBox$Fixed") (by decide +kernel) rfl (Nat.le_of_ble_eq_true rfl) (fun p e s m below meth c F hr hin hH => ?_)
  refine zr_lload_n F zd_XFixed_div_0 rfl ?_
  refine zr_lconstv (v := 0) F zd_XFixed_div_1 (by decide) ?_
  refine zr_lcmp F zd_XFixed_div_2 ?_
  refine zr_if_ne F 10 zd_XFixed_div_3 (by decide) (fun h => ?_) (fun h => ?_)
  ·
    refine zr_lload_n F zd_XFixed_div_10 rfl ?_
    refine zr_lload_n F zd_XFixed_div_11 rfl ?_
    refine zr_callS1 F (c_JMath_floorDiv l D tA b f n x y (zx_cmp0 h)) zd_XFixed_div_12 zs_XFixed_7 zq_JMath_floorDiv rfl rfl ⟨(Nat.le_of_ble_eq_true rfl), (Nat.le_of_ble_eq_true rfl)⟩ (Nat.le_of_ble_eq_true rfl) ⟨(Nat.le_of_ble_eq_true rfl), (Nat.le_of_ble_eq_true rfl)⟩ ?_
    exact zr_lret F hr zd_XFixed_div_15 (Nat.le_of_ble_eq_true rfl) (Nat.le_of_ble_eq_true rfl) ⟨by rw [zx_div, if_neg h], rfl, rfl⟩
  ·
    refine zr_lconstv (v := 0) F zd_XFixed_div_6 (by decide) ?_
    refine zr_goto F 15 zd_XFixed_div_7 (by decide) ?_
    exact zr_lret F hr zd_XFixed_div_15 (Nat.le_of_ble_eq_true rfl) (Nat.le_of_ble_eq_true rfl) ⟨by rw [zx_div, if_pos h], rfl, rfl⟩
abbrev zb_XFixed_bound : ByteArray := prog_2_method_4_code
def zy_XFixed_bound : MethodName := ⟨"OrreryBox$Fixed", "bound", "(J)I"⟩
theorem zc_XFixed_bound : Cond.code zy_XFixed_bound zb_XFixed_bound 2 (some .int) ∈ gw := gw_t 648 (by decide +kernel) rfl
theorem zq_XFixed_bound : zy_XFixed_bound.cls ≠ "java/lang/invoke/MethodHandle" ∧ zy_XFixed_bound.cls ≠ "java/lang/invoke/VarHandle" ∧ (parseMethodDescriptor zy_XFixed_bound.desc).map (fun d => d.parameters.length) = some 1 := by decide +kernel
theorem zd_XFixed_bound_0 : decode zb_XFixed_bound 0 = .ok (.ldc2_w 13, 3) := by decide +kernel
theorem zd_XFixed_bound_3 : decode zb_XFixed_bound 3 = .ok (.ldc2_w 15, 3) := by decide +kernel
theorem zd_XFixed_bound_6 : decode zb_XFixed_bound 6 = .ok (.lload_n 0, 1) := by decide +kernel
theorem zd_XFixed_bound_7 : decode zb_XFixed_bound 7 = .ok (.invokestatic 17, 3) := by decide +kernel
theorem zd_XFixed_bound_10 : decode zb_XFixed_bound 10 = .ok (.invokestatic 20, 3) := by decide +kernel
theorem zd_XFixed_bound_13 : decode zb_XFixed_bound 13 = .ok (.l2i, 1) := by decide +kernel
theorem zd_XFixed_bound_14 : decode zb_XFixed_bound 14 = .ok (.ireturn, 1) := by decide +kernel
theorem zw_649 : (Jvm.Cond.constantLong "OrreryBox$Fixed" (13 : Nat) (-16777216 : Int64)) ∈ gw := gw_t 649 (by decide +kernel) rfl
theorem zw_650 : (Jvm.Cond.constantLong "OrreryBox$Fixed" (15 : Nat) (16777216 : Int64)) ∈ gw := gw_t 650 (by decide +kernel) rfl
theorem zw_651 : (Jvm.Cond.methodLink "OrreryBox$Fixed" (17 : Nat) ({ cls := "java/lang/Math", name := "min", desc := "(JJ)J" } : Jvm.MethodName)) ∈ gw := gw_t 651 (by decide +kernel) rfl
theorem zw_652 : (Jvm.Cond.static ({ cls := "java/lang/Math", name := "min", desc := "(JJ)J" } : Jvm.MethodName)) ∈ gw := gw_t 652 (by decide +kernel) rfl
theorem zs_XFixed_17 : zwS "OrreryBox$Fixed" 17 zy_JMath_min2 zb_JMath_min2 4 (some .long) := ⟨zw_651, zw_652, zw_4, zc_JMath_min2⟩
theorem zw_654 : (Jvm.Cond.methodLink "OrreryBox$Fixed" (20 : Nat) ({ cls := "java/lang/Math", name := "max", desc := "(JJ)J" } : Jvm.MethodName)) ∈ gw := gw_t 654 (by decide +kernel) rfl
theorem zw_655 : (Jvm.Cond.static ({ cls := "java/lang/Math", name := "max", desc := "(JJ)J" } : Jvm.MethodName)) ∈ gw := gw_t 655 (by decide +kernel) rfl
theorem zs_XFixed_20 : zwS "OrreryBox$Fixed" 20 zy_JMath_max2 zb_JMath_max2 4 (some .long) := ⟨zw_654, zw_655, zw_4, zc_JMath_max2⟩
set_option maxHeartbeats 4000000 in
set_option maxRecDepth 100000 in
theorem c_XFixed_bound (l : Launch) (D : va_G) (tA : Nat → ClassId) (b : Nat) (f : zV) (n : Nat) (x : Int64)  : zM l D tA b zy_XFixed_bound zb_XFixed_bound 2 (some .int) 1 23 0 0 [.long x] f n (zE (some (.int (zx_bound x))) f n) := by
  refine zM_of (own := "OrreryBox$Fixed") (by decide +kernel) rfl (Nat.le_of_ble_eq_true rfl) (fun p e s m below meth c F hr hin hH => ?_)
  refine zr_ldc2 F zd_XFixed_bound_0 zw_649 ?_
  refine zr_ldc2 F zd_XFixed_bound_3 zw_650 ?_
  refine zr_lload_n F zd_XFixed_bound_6 rfl ?_
  refine zr_callS1 F (c_JMath_min2 l D tA b f n 16777216 x) zd_XFixed_bound_7 zs_XFixed_17 zq_JMath_min2 rfl rfl ⟨(Nat.le_of_ble_eq_true rfl), (Nat.le_of_ble_eq_true rfl)⟩ (Nat.le_of_ble_eq_true rfl) ⟨(Nat.le_of_ble_eq_true rfl), (Nat.le_of_ble_eq_true rfl)⟩ ?_
  refine zr_callS1 F (c_JMath_max2 l D tA b f n (-16777216) (zx_minl 16777216 x)) zd_XFixed_bound_10 zs_XFixed_20 zq_JMath_max2 rfl rfl ⟨(Nat.le_of_ble_eq_true rfl), (Nat.le_of_ble_eq_true rfl)⟩ (Nat.le_of_ble_eq_true rfl) ⟨(Nat.le_of_ble_eq_true rfl), (Nat.le_of_ble_eq_true rfl)⟩ ?_
  refine zr_l2i F zd_XFixed_bound_13 ?_
  exact zr_iret F hr zd_XFixed_bound_14 (Nat.le_of_ble_eq_true rfl) (Nat.le_of_ble_eq_true rfl) ⟨rfl, rfl, rfl⟩
/-- sin of the document, as Fixed has it -/
def zx_half (k : Int32) : Int64 := ((k &&& 4095) &&& 2047).toInt64
def zx_sp (k : Int32) : Int64 := zx_half k * (2048 - zx_half k)
def zx_sin0 (k : Int32) : Int32 := (zx_div (1048576 * zx_sp k) (20971520 - 4 * zx_sp k)).toInt32
def zx_sin (k : Int32) : Int32 := if 2048 ≤ (k &&& 4095) then -(zx_sin0 k) else zx_sin0 k
abbrev zb_XFixed_sin : ByteArray := prog_2_method_5_code
def zy_XFixed_sin : MethodName := ⟨"OrreryBox$Fixed", "sin", "(I)I"⟩
theorem zc_XFixed_sin : Cond.code zy_XFixed_sin zb_XFixed_sin 7 (some .int) ∈ gw := gw_t 635 (by decide +kernel) rfl
theorem zq_XFixed_sin : zy_XFixed_sin.cls ≠ "java/lang/invoke/MethodHandle" ∧ zy_XFixed_sin.cls ≠ "java/lang/invoke/VarHandle" ∧ (parseMethodDescriptor zy_XFixed_sin.desc).map (fun d => d.parameters.length) = some 1 := by decide +kernel
theorem zd_XFixed_sin_0 : decode zb_XFixed_sin 0 = .ok (.iload_n 0, 1) := by decide +kernel
theorem zd_XFixed_sin_1 : decode zb_XFixed_sin 1 = .ok (.sipush 4095, 3) := by decide +kernel
theorem zd_XFixed_sin_4 : decode zb_XFixed_sin 4 = .ok (.iand, 1) := by decide +kernel
theorem zd_XFixed_sin_5 : decode zb_XFixed_sin 5 = .ok (.istore_n 1, 1) := by decide +kernel
theorem zd_XFixed_sin_6 : decode zb_XFixed_sin 6 = .ok (.iload_n 1, 1) := by decide +kernel
theorem zd_XFixed_sin_7 : decode zb_XFixed_sin 7 = .ok (.sipush 2047, 3) := by decide +kernel
theorem zd_XFixed_sin_10 : decode zb_XFixed_sin 10 = .ok (.iand, 1) := by decide +kernel
theorem zd_XFixed_sin_11 : decode zb_XFixed_sin 11 = .ok (.i2l, 1) := by decide +kernel
theorem zd_XFixed_sin_12 : decode zb_XFixed_sin 12 = .ok (.lstore_n 2, 1) := by decide +kernel
theorem zd_XFixed_sin_13 : decode zb_XFixed_sin 13 = .ok (.lload_n 2, 1) := by decide +kernel
theorem zd_XFixed_sin_14 : decode zb_XFixed_sin 14 = .ok (.ldc2_w 23, 3) := by decide +kernel
theorem zd_XFixed_sin_17 : decode zb_XFixed_sin 17 = .ok (.lload_n 2, 1) := by decide +kernel
theorem zd_XFixed_sin_18 : decode zb_XFixed_sin 18 = .ok (.lsub, 1) := by decide +kernel
theorem zd_XFixed_sin_19 : decode zb_XFixed_sin 19 = .ok (.lmul, 1) := by decide +kernel
theorem zd_XFixed_sin_20 : decode zb_XFixed_sin 20 = .ok (.lstore 4, 2) := by decide +kernel
theorem zd_XFixed_sin_22 : decode zb_XFixed_sin 22 = .ok (.ldc2_w 25, 3) := by decide +kernel
theorem zd_XFixed_sin_25 : decode zb_XFixed_sin 25 = .ok (.lload 4, 2) := by decide +kernel
theorem zd_XFixed_sin_27 : decode zb_XFixed_sin 27 = .ok (.lmul, 1) := by decide +kernel
theorem zd_XFixed_sin_28 : decode zb_XFixed_sin 28 = .ok (.ldc2_w 27, 3) := by decide +kernel
theorem zd_XFixed_sin_31 : decode zb_XFixed_sin 31 = .ok (.ldc2_w 29, 3) := by decide +kernel
theorem zd_XFixed_sin_34 : decode zb_XFixed_sin 34 = .ok (.lload 4, 2) := by decide +kernel
theorem zd_XFixed_sin_36 : decode zb_XFixed_sin 36 = .ok (.lmul, 1) := by decide +kernel
theorem zd_XFixed_sin_37 : decode zb_XFixed_sin 37 = .ok (.lsub, 1) := by decide +kernel
theorem zd_XFixed_sin_38 : decode zb_XFixed_sin 38 = .ok (.invokestatic 31, 3) := by decide +kernel
theorem zd_XFixed_sin_41 : decode zb_XFixed_sin 41 = .ok (.l2i, 1) := by decide +kernel
theorem zd_XFixed_sin_42 : decode zb_XFixed_sin 42 = .ok (.istore 6, 2) := by decide +kernel
theorem zd_XFixed_sin_44 : decode zb_XFixed_sin 44 = .ok (.iload_n 1, 1) := by decide +kernel
theorem zd_XFixed_sin_45 : decode zb_XFixed_sin 45 = .ok (.sipush 2048, 3) := by decide +kernel
theorem zd_XFixed_sin_48 : decode zb_XFixed_sin 48 = .ok (.if_icmp .ge 8, 3) := by decide +kernel
theorem zd_XFixed_sin_51 : decode zb_XFixed_sin 51 = .ok (.iload 6, 2) := by decide +kernel
theorem zd_XFixed_sin_53 : decode zb_XFixed_sin 53 = .ok (.goto 6, 3) := by decide +kernel
theorem zd_XFixed_sin_56 : decode zb_XFixed_sin 56 = .ok (.iload 6, 2) := by decide +kernel
theorem zd_XFixed_sin_58 : decode zb_XFixed_sin 58 = .ok (.ineg, 1) := by decide +kernel
theorem zd_XFixed_sin_59 : decode zb_XFixed_sin 59 = .ok (.ireturn, 1) := by decide +kernel
theorem zw_636 : (Jvm.Cond.constantLong "OrreryBox$Fixed" (23 : Nat) (2048 : Int64)) ∈ gw := gw_t 636 (by decide +kernel) rfl
theorem zw_637 : (Jvm.Cond.constantLong "OrreryBox$Fixed" (25 : Nat) (1048576 : Int64)) ∈ gw := gw_t 637 (by decide +kernel) rfl
theorem zw_638 : (Jvm.Cond.constantLong "OrreryBox$Fixed" (27 : Nat) (20971520 : Int64)) ∈ gw := gw_t 638 (by decide +kernel) rfl
theorem zw_639 : (Jvm.Cond.constantLong "OrreryBox$Fixed" (29 : Nat) (4 : Int64)) ∈ gw := gw_t 639 (by decide +kernel) rfl
theorem zw_640 : (Jvm.Cond.methodLink "OrreryBox$Fixed" (31 : Nat) ({ cls := "OrreryBox$Fixed", name := "div", desc := "(JJ)J" } : Jvm.MethodName)) ∈ gw := gw_t 640 (by decide +kernel) rfl
theorem zw_571 : (Jvm.Cond.static ({ cls := "OrreryBox$Fixed", name := "div", desc := "(JJ)J" } : Jvm.MethodName)) ∈ gw := gw_t 571 (by decide +kernel) rfl
theorem zw_27 : (Jvm.Cond.initialized "OrreryBox$Fixed") ∈ gw := gw_t 27 (by decide +kernel) rfl
theorem zs_XFixed_31 : zwS "OrreryBox$Fixed" 31 zy_XFixed_div zb_XFixed_div 4 (some .long) := ⟨zw_640, zw_571, zw_27, zc_XFixed_div⟩
set_option maxHeartbeats 4000000 in
set_option maxRecDepth 100000 in
theorem c_XFixed_sin (l : Launch) (D : va_G) (tA : Nat → ClassId) (b : Nat) (f : zV) (n : Nat) (k : Int32)  : zM l D tA b zy_XFixed_sin zb_XFixed_sin 7 (some .int) 2 48 0 0 [.int k] f n (zE (some (.int (zx_sin k))) f n) := by
  refine zM_of (own := "OrreryBox$Fixed") (by decide +kernel) rfl (Nat.le_of_ble_eq_true rfl) (fun p e s m below meth c F hr hin hH => ?_)
  refine zr_iload_n F zd_XFixed_sin_0 rfl ?_
  refine zr_sipushv (v := 4095) F zd_XFixed_sin_1 (by decide) ?_
  refine zr_iand F zd_XFixed_sin_4 ?_
  refine zr_istore_n F zd_XFixed_sin_5 (by decide) ?_
  refine zr_iload_n F zd_XFixed_sin_6 rfl ?_
  refine zr_sipushv (v := 2047) F zd_XFixed_sin_7 (by decide) ?_
  refine zr_iand F zd_XFixed_sin_10 ?_
  refine zr_i2l F zd_XFixed_sin_11 ?_
  refine zr_lstore_n F zd_XFixed_sin_12 (by decide) ?_
  refine zr_lload_n F zd_XFixed_sin_13 rfl ?_
  refine zr_ldc2 F zd_XFixed_sin_14 zw_636 ?_
  refine zr_lload_n F zd_XFixed_sin_17 rfl ?_
  refine zr_lsub F zd_XFixed_sin_18 ?_
  refine zr_lmul F zd_XFixed_sin_19 ?_
  refine zr_lstore F zd_XFixed_sin_20 (by decide) ?_
  refine zr_ldc2 F zd_XFixed_sin_22 zw_637 ?_
  refine zr_lload F zd_XFixed_sin_25 rfl ?_
  refine zr_lmul F zd_XFixed_sin_27 ?_
  refine zr_ldc2 F zd_XFixed_sin_28 zw_638 ?_
  refine zr_ldc2 F zd_XFixed_sin_31 zw_639 ?_
  refine zr_lload F zd_XFixed_sin_34 rfl ?_
  refine zr_lmul F zd_XFixed_sin_36 ?_
  refine zr_lsub F zd_XFixed_sin_37 ?_
  refine zr_callS1 F (c_XFixed_div l D tA b f n (1048576 * zx_sp k) (20971520 - 4 * zx_sp k)) zd_XFixed_sin_38 zs_XFixed_31 zq_XFixed_div rfl rfl ⟨(Nat.le_of_ble_eq_true rfl), (Nat.le_of_ble_eq_true rfl)⟩ (Nat.le_of_ble_eq_true rfl) ⟨(Nat.le_of_ble_eq_true rfl), (Nat.le_of_ble_eq_true rfl)⟩ ?_
  refine zr_l2i F zd_XFixed_sin_41 ?_
  refine zr_istore F zd_XFixed_sin_42 (by decide) ?_
  refine zr_iload_n F zd_XFixed_sin_44 rfl ?_
  refine zr_sipushv (v := 2048) F zd_XFixed_sin_45 (by decide) ?_
  refine zr_icmp_ge F 56 zd_XFixed_sin_48 (by decide) (fun h => ?_) (fun h => ?_)
  ·
    refine zr_iload F zd_XFixed_sin_56 rfl ?_
    refine zr_ineg F zd_XFixed_sin_58 ?_
    exact zr_iret F hr zd_XFixed_sin_59 (Nat.le_of_ble_eq_true rfl) (Nat.le_of_ble_eq_true rfl) ⟨by rw [zx_sin, if_pos h]; rfl, rfl, rfl⟩
  ·
    refine zr_iload F zd_XFixed_sin_51 rfl ?_
    refine zr_goto F 59 zd_XFixed_sin_53 (by decide) ?_
    exact zr_iret F hr zd_XFixed_sin_59 (Nat.le_of_ble_eq_true rfl) (Nat.le_of_ble_eq_true rfl) ⟨by rw [zx_sin, if_neg h]; rfl, rfl, rfl⟩
