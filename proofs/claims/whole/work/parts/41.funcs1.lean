def F_JMath_floorDiv (_ : zSh) (mm : zMem) (x y : Int64) : Option (Int64 × zMem) := if y = 0 then none else some (zx_fdiv x y, mm)
theorem k_JMath_floorDiv (l : Launch) (D : va_G) (tA : Nat → ClassId) (b : Nat) (sh : zSh) (n : Nat) {mm : zMem} {x y : Int64} {r : Int64 × zMem} (h : F_JMath_floorDiv sh mm x y = some r) : zM l D tA b zy_JMath_floorDiv zb_JMath_floorDiv 6 (some .long) 0 0 0 0 [.long x, .long y] (zW tA b sh mm) n (zE (some (.long r.1)) (zW tA b sh r.2) n) := by
  unfold F_JMath_floorDiv at h
  obtain ⟨hy, h⟩ := zoI_s h
  obtain rfl := Option.some.inj h
  exact c_JMath_floorDiv l D tA b _ _ x y hy
abbrev zb_JMath_abs2 : ByteArray := prog_21_method_61_code
def zy_JMath_abs2 : MethodName := ⟨"java/lang/Math", "abs", "(J)J"⟩
theorem zc_JMath_abs2 : Cond.code zy_JMath_abs2 zb_JMath_abs2 2 (some .long) ∈ gw := gw_t 810 (by decide +kernel) rfl
theorem zq_JMath_abs2 : zy_JMath_abs2.cls ≠ "java/lang/invoke/MethodHandle" ∧ zy_JMath_abs2.cls ≠ "java/lang/invoke/VarHandle" ∧ (parseMethodDescriptor zy_JMath_abs2.desc).map (fun d => d.parameters.length) = some 1 := by decide +kernel
theorem zd_JMath_abs2_0 : decode zb_JMath_abs2 0 = .ok (.lload_n 0, 1) := by decide +kernel
theorem zd_JMath_abs2_1 : decode zb_JMath_abs2 1 = .ok (.lconst 0, 1) := by decide +kernel
theorem zd_JMath_abs2_2 : decode zb_JMath_abs2 2 = .ok (.lcmp, 1) := by decide +kernel
theorem zd_JMath_abs2_3 : decode zb_JMath_abs2 3 = .ok (.ifCond .ge 8, 3) := by decide +kernel
theorem zd_JMath_abs2_6 : decode zb_JMath_abs2 6 = .ok (.lload_n 0, 1) := by decide +kernel
theorem zd_JMath_abs2_7 : decode zb_JMath_abs2 7 = .ok (.lneg, 1) := by decide +kernel
theorem zd_JMath_abs2_8 : decode zb_JMath_abs2 8 = .ok (.goto 4, 3) := by decide +kernel
theorem zd_JMath_abs2_11 : decode zb_JMath_abs2 11 = .ok (.lload_n 0, 1) := by decide +kernel
theorem zd_JMath_abs2_12 : decode zb_JMath_abs2 12 = .ok (.lreturn, 1) := by decide +kernel
def F_JMath_abs2 (sh : zSh) (mm : zMem) (x0_ : Int64) : Option (Int64 × zMem) := (if 0 ≤ (lg_cmp x0_ 0) then some (x0_, mm) else some ((-x0_), mm))
set_option maxHeartbeats 4000000 in
set_option maxRecDepth 100000 in
theorem k_JMath_abs2 (l : Launch) (D : va_G) (tA : Nat → ClassId) (b : Nat) (sh : zSh) (n : Nat) {mm : zMem} {x0_ : Int64} {r : (Int64 × zMem)} (h : F_JMath_abs2 sh mm x0_ = some r) : zM l D tA b zy_JMath_abs2 zb_JMath_abs2 2 (some .long) 0 0 0 0 [.long x0_] (zW tA b sh mm) n (zE (some (.long (r.1))) (zW tA b sh r.2) n) := by
  unfold F_JMath_abs2 at h
  refine zM_of (own := "java/lang/Math") (by decide +kernel) rfl (Nat.le_of_ble_eq_true rfl) (fun p e s m below meth c F hr hin hH => ?_)
  refine zr_lload_n F zd_JMath_abs2_0 rfl ?_
  refine zr_lconstv (v := 0) F zd_JMath_abs2_1 (by decide) ?_
  refine zr_lcmp F zd_JMath_abs2_2 ?_
  refine zr_if_ge F 11 zd_JMath_abs2_3 (by decide) (fun hb1 => ?_) (fun hb1 => ?_)
  ·
    rw [if_pos hb1] at h
    refine zr_lload_n F zd_JMath_abs2_11 rfl ?_
    obtain rfl := Option.some.inj h
    exact zr_lret F hr zd_JMath_abs2_12 (Nat.le_of_ble_eq_true rfl) (Nat.le_of_ble_eq_true rfl) ⟨rfl, rfl, rfl⟩
  ·
    rw [if_neg hb1] at h
    refine zr_lload_n F zd_JMath_abs2_6 rfl ?_
    refine zr_pcn 7 rfl ?_
    refine zr_lneg F zd_JMath_abs2_7 ?_
    refine zr_goto F 12 zd_JMath_abs2_8 (by decide) ?_
    obtain rfl := Option.some.inj h
    exact zr_lret F hr zd_JMath_abs2_12 (Nat.le_of_ble_eq_true rfl) (Nat.le_of_ble_eq_true rfl) ⟨rfl, rfl, rfl⟩
abbrev zb_JMath_floorMod : ByteArray := prog_21_method_52_code
def zy_JMath_floorMod : MethodName := ⟨"java/lang/Math", "floorMod", "(JJ)J"⟩
theorem zc_JMath_floorMod : Cond.code zy_JMath_floorMod zb_JMath_floorMod 6 (some .long) ∈ gw := gw_t 2021 (by decide +kernel) rfl
theorem zq_JMath_floorMod : zy_JMath_floorMod.cls ≠ "java/lang/invoke/MethodHandle" ∧ zy_JMath_floorMod.cls ≠ "java/lang/invoke/VarHandle" ∧ (parseMethodDescriptor zy_JMath_floorMod.desc).map (fun d => d.parameters.length) = some 2 := by decide +kernel
theorem zd_JMath_floorMod_0 : decode zb_JMath_floorMod 0 = .ok (.lload_n 0, 1) := by decide +kernel
theorem zd_JMath_floorMod_1 : decode zb_JMath_floorMod 1 = .ok (.lload_n 2, 1) := by decide +kernel
theorem zd_JMath_floorMod_2 : decode zb_JMath_floorMod 2 = .ok (.lrem, 1) := by decide +kernel
theorem zd_JMath_floorMod_3 : decode zb_JMath_floorMod 3 = .ok (.lstore 4, 2) := by decide +kernel
theorem zd_JMath_floorMod_5 : decode zb_JMath_floorMod 5 = .ok (.lload_n 0, 1) := by decide +kernel
theorem zd_JMath_floorMod_6 : decode zb_JMath_floorMod 6 = .ok (.lload_n 2, 1) := by decide +kernel
theorem zd_JMath_floorMod_7 : decode zb_JMath_floorMod 7 = .ok (.lxor, 1) := by decide +kernel
theorem zd_JMath_floorMod_8 : decode zb_JMath_floorMod 8 = .ok (.lconst 0, 1) := by decide +kernel
theorem zd_JMath_floorMod_9 : decode zb_JMath_floorMod 9 = .ok (.lcmp, 1) := by decide +kernel
theorem zd_JMath_floorMod_10 : decode zb_JMath_floorMod 10 = .ok (.ifCond .ge 15, 3) := by decide +kernel
theorem zd_JMath_floorMod_13 : decode zb_JMath_floorMod 13 = .ok (.lload 4, 2) := by decide +kernel
theorem zd_JMath_floorMod_15 : decode zb_JMath_floorMod 15 = .ok (.lconst 0, 1) := by decide +kernel
theorem zd_JMath_floorMod_16 : decode zb_JMath_floorMod 16 = .ok (.lcmp, 1) := by decide +kernel
theorem zd_JMath_floorMod_17 : decode zb_JMath_floorMod 17 = .ok (.ifCond .eq 8, 3) := by decide +kernel
theorem zd_JMath_floorMod_20 : decode zb_JMath_floorMod 20 = .ok (.lload 4, 2) := by decide +kernel
theorem zd_JMath_floorMod_22 : decode zb_JMath_floorMod 22 = .ok (.lload_n 2, 1) := by decide +kernel
theorem zd_JMath_floorMod_23 : decode zb_JMath_floorMod 23 = .ok (.ladd, 1) := by decide +kernel
theorem zd_JMath_floorMod_24 : decode zb_JMath_floorMod 24 = .ok (.lreturn, 1) := by decide +kernel
theorem zd_JMath_floorMod_25 : decode zb_JMath_floorMod 25 = .ok (.lload 4, 2) := by decide +kernel
theorem zd_JMath_floorMod_27 : decode zb_JMath_floorMod 27 = .ok (.lreturn, 1) := by decide +kernel
def F_JMath_floorMod (sh : zSh) (mm : zMem) (x0_ : Int64) (x1_ : Int64) : Option (Int64 × zMem) := (if x1_ = 0 then none else zoL (x0_ - x0_ / x1_ * x1_) (fun x2 => (if 0 ≤ (lg_cmp (x0_ ^^^ x1_) 0) then some (x2, mm) else (if (lg_cmp x2 0) = 0 then some (x2, mm) else some ((x2 + x1_), mm)))))
set_option maxHeartbeats 4000000 in
set_option maxRecDepth 100000 in
theorem k_JMath_floorMod (l : Launch) (D : va_G) (tA : Nat → ClassId) (b : Nat) (sh : zSh) (n : Nat) {mm : zMem} {x0_ : Int64} {x1_ : Int64} {r : (Int64 × zMem)} (h : F_JMath_floorMod sh mm x0_ x1_ = some r) : zM l D tA b zy_JMath_floorMod zb_JMath_floorMod 6 (some .long) 0 0 0 0 [.long x0_, .long x1_] (zW tA b sh mm) n (zE (some (.long (r.1))) (zW tA b sh r.2) n) := by
  unfold F_JMath_floorMod at h
  refine zM_of (own := "java/lang/Math") (by decide +kernel) rfl (Nat.le_of_ble_eq_true rfl) (fun p e s m below meth c F hr hin hH => ?_)
  refine zr_lload_n F zd_JMath_floorMod_0 rfl ?_
  refine zr_lload_n F zd_JMath_floorMod_1 rfl ?_
  obtain ⟨hn1, h⟩ := zoI_s h
  refine zr_lrem F zd_JMath_floorMod_2 hn1 ?_
  obtain ⟨x2, ex2, h⟩ := zoL_s h
  rw [← ex2]
  refine zr_lstore F zd_JMath_floorMod_3 (by decide) ?_
  refine zr_lload_n F zd_JMath_floorMod_5 rfl ?_
  refine zr_lload_n F zd_JMath_floorMod_6 rfl ?_
  refine zr_lxor F zd_JMath_floorMod_7 ?_
  refine zr_pcn 8 rfl ?_
  refine zr_lconstv (v := 0) F zd_JMath_floorMod_8 (by decide) ?_
  refine zr_lcmp F zd_JMath_floorMod_9 ?_
  refine zr_if_ge F 25 zd_JMath_floorMod_10 (by decide) (fun hb3 => ?_) (fun hb3 => ?_)
  ·
    rw [if_pos hb3] at h
    refine zr_lload F zd_JMath_floorMod_25 rfl ?_
    obtain rfl := Option.some.inj h
    exact zr_lret F hr zd_JMath_floorMod_27 (Nat.le_of_ble_eq_true rfl) (Nat.le_of_ble_eq_true rfl) ⟨rfl, rfl, rfl⟩
  ·
    rw [if_neg hb3] at h
    refine zr_lload F zd_JMath_floorMod_13 rfl ?_
    refine zr_lconstv (v := 0) F zd_JMath_floorMod_15 (by decide) ?_
    refine zr_lcmp F zd_JMath_floorMod_16 ?_
    refine zr_pcn 17 rfl ?_
    refine zr_if_eq F 25 zd_JMath_floorMod_17 (by decide) (fun hb4 => ?_) (fun hb4 => ?_)
    ·
      rw [if_pos hb4] at h
      refine zr_lload F zd_JMath_floorMod_25 rfl ?_
      obtain rfl := Option.some.inj h
      exact zr_lret F hr zd_JMath_floorMod_27 (Nat.le_of_ble_eq_true rfl) (Nat.le_of_ble_eq_true rfl) ⟨rfl, rfl, rfl⟩
    ·
      rw [if_neg hb4] at h
      refine zr_lload F zd_JMath_floorMod_20 rfl ?_
      refine zr_lload_n F zd_JMath_floorMod_22 rfl ?_
      refine zr_ladd F zd_JMath_floorMod_23 ?_
      obtain rfl := Option.some.inj h
      exact zr_lret F hr zd_JMath_floorMod_24 (Nat.le_of_ble_eq_true rfl) (Nat.le_of_ble_eq_true rfl) ⟨rfl, rfl, rfl⟩
theorem zf_I_0_3 (b : Nat) (m : zMem) (k : Nat) (v : Int32) : (zfl b 0 m k).set 3 (.int v) = zfl b 0 (mI m k 3 v) k := by simp [zfl, mI, upd, vp_updL]
def F_OB_end (sh : zSh) (mm : zMem) (o : Nat) (x0_ : Int32) : Option (Int32 × zMem) := (if x0_ < 0 then some (0, mm) else zoS (sh o) 0 (fun le3 => (if x0_ ≤ (mm.1 o 3) then zoS (sh o) 0 (fun le6 => zoL (mI mm o 3 x0_) (fun mm7 => some (1, mm7))) else some (0, mm))))
set_option maxHeartbeats 4000000 in
set_option maxRecDepth 100000 in
theorem k_OB_end (l : Launch) (D : va_G) (tA : Nat → ClassId) (b : Nat) (sh : zSh) (n : Nat) {mm : zMem} {o : Nat} {x0_ : Int32} {r : (Int32 × zMem)} (h : F_OB_end sh mm o x0_ = some r) : zM l D tA b zy_OB_end zb_OB_end 2 (some .boolean) 0 0 0 0 [.ref (b + o), .int x0_] (zW tA b sh mm) n (zE (some (.int (r.1))) (zW tA b sh r.2) n) := by
  unfold F_OB_end at h
  refine zM_of (own := "OrreryBox") (plainFor_of_name (by decide)) rfl (Nat.le_of_ble_eq_true rfl) (fun p e s m below meth c F hr hin hH => ?_)
  refine zr_iload_n F zd_OB_end_0 rfl ?_
  refine zr_if_lt F 12 zd_OB_end_1 (by decide) (fun hb1 => ?_) (fun hb1 => ?_)
  ·
    rw [if_pos hb1] at h
    refine zr_iconstv (v := 0) F zd_OB_end_12 (by decide) ?_
    obtain rfl := Option.some.inj h
    exact zr_zret F hr rfl zd_OB_end_13 (Nat.le_of_ble_eq_true rfl) (Nat.le_of_ble_eq_true rfl) ⟨rfl, rfl, rfl⟩
  ·
    rw [if_neg hb1] at h
    refine zr_iload_n F zd_OB_end_4 rfl ?_
    refine zr_aload_n F zd_OB_end_5 rfl ?_
    obtain ⟨le3, hs2, h⟩ := zoS_s h
    refine zr_get F 0 3 zd_OB_end_6 (zW_o hs2 (by decide)) rfl (by decide) zw_491 rfl (by rfl) ?_
    refine zr_pcn 9 rfl ?_
    refine zr_icmp_le F 14 zd_OB_end_9 (by decide) (fun hb4 => ?_) (fun hb4 => ?_)
    ·
      rw [if_pos hb4] at h
      refine zr_aload_n F zd_OB_end_14 rfl ?_
      refine zr_iload_n F zd_OB_end_15 rfl ?_
      obtain ⟨le6, hs5, h⟩ := zoS_s h
      refine zr_put F 0 3 zd_OB_end_16 (zW_o hs5 (by decide)) rfl (by decide) zw_491 rfl rfl rfl rfl (by exact (Nat.le_of_ble_eq_true rfl)) ?_
      obtain ⟨mm7, emm7, h⟩ := zoL_s h
      refine zr_norm (zW tA b sh mm7) _ (by rw [emm7]; exact zW_pI (v := x0_) hs5 (by decide) (zf_I_0_3 b _ _ _)) rfl ?_
      refine zr_iconstv (v := 1) F zd_OB_end_19 (by decide) ?_
      obtain rfl := Option.some.inj h
      exact zr_zret F hr rfl zd_OB_end_20 (Nat.le_of_ble_eq_true rfl) (Nat.le_of_ble_eq_true rfl) ⟨rfl, rfl, rfl⟩
    ·
      rw [if_neg hb4] at h
      refine zr_iconstv (v := 0) F zd_OB_end_12 (by decide) ?_
      obtain rfl := Option.some.inj h
      exact zr_zret F hr rfl zd_OB_end_13 (Nat.le_of_ble_eq_true rfl) (Nat.le_of_ble_eq_true rfl) ⟨rfl, rfl, rfl⟩
def F_OB_error (sh : zSh) (mm : zMem) (o : Nat) (x0_ : Int32) : Option (Int32 × zMem) := (if x0_ = 0 then zoS (sh o) 0 (fun le9 => Option.bind (mm.2.2 o 6) (fun a10 => zoS (sh a10) 7 (fun le12 => some ((mm.1 a10 0), mm)))) else (if x0_ = 1 then zoS (sh o) 0 (fun le4 => Option.bind (mm.2.2 o 6) (fun a5 => zoS (sh a5) 7 (fun le7 => some ((mm.1 a5 1), mm)))) else some (0, mm)))
set_option maxHeartbeats 4000000 in
set_option maxRecDepth 100000 in
theorem k_OB_error (l : Launch) (D : va_G) (tA : Nat → ClassId) (b : Nat) (sh : zSh) (n : Nat) {mm : zMem} {o : Nat} {x0_ : Int32} {r : (Int32 × zMem)} (h : F_OB_error sh mm o x0_ = some r) : zM l D tA b zy_OB_error zb_OB_error 2 (some .int) 0 0 0 0 [.ref (b + o), .int x0_] (zW tA b sh mm) n (zE (some (.int (r.1))) (zW tA b sh r.2) n) := by
  unfold F_OB_error at h
  refine zM_of (own := "OrreryBox") (plainFor_of_name (by decide)) rfl (Nat.le_of_ble_eq_true rfl) (fun p e s m below meth c F hr hin hH => ?_)
  refine zr_iload_n F zd_OB_error_0 rfl ?_
  refine zr_if_ne F 14 zd_OB_error_1 (by decide) (fun hb1 => ?_) (fun hb1 => ?_)
  ·
    rw [if_neg hb1] at h
    refine zr_iload_n F zd_OB_error_14 rfl ?_
    refine zr_iconstv (v := 1) F zd_OB_error_15 (by decide) ?_
    refine zr_icmp_ne F 29 zd_OB_error_16 (by decide) (fun hb2 => ?_) (fun hb2 => ?_)
    ·
      rw [if_neg hb2] at h
      refine zr_iconstv (v := 0) F zd_OB_error_29 (by decide) ?_
      obtain rfl := Option.some.inj h
      exact zr_iret F hr zd_OB_error_30 (Nat.le_of_ble_eq_true rfl) (Nat.le_of_ble_eq_true rfl) ⟨rfl, rfl, rfl⟩
    ·
      rw [if_pos hb2] at h
      refine zr_pcn 19 rfl ?_
      refine zr_aload_n F zd_OB_error_19 rfl ?_
      obtain ⟨le4, hs3, h⟩ := zoS_s h
      obtain ⟨a5, ea5, h⟩ := zoB_s h
      refine zr_get F 0 6 zd_OB_error_20 (zW_o hs3 (by decide)) rfl (by decide) zw_494 rfl (by rfl) ?_
      refine zr_tor ea5 ?_
      obtain ⟨le7, hs6, h⟩ := zoS_s h
      refine zr_get F 7 1 zd_OB_error_23 (zW_o hs6 (by decide)) rfl (by decide) zw_49 rfl (by rfl) ?_
      refine zr_goto F 30 zd_OB_error_26 (by decide) ?_
      obtain rfl := Option.some.inj h
      exact zr_iret F hr zd_OB_error_30 (Nat.le_of_ble_eq_true rfl) (Nat.le_of_ble_eq_true rfl) ⟨rfl, rfl, rfl⟩
  ·
    rw [if_pos hb1] at h
    refine zr_aload_n F zd_OB_error_4 rfl ?_
    obtain ⟨le9, hs8, h⟩ := zoS_s h
    obtain ⟨a10, ea10, h⟩ := zoB_s h
    refine zr_get F 0 6 zd_OB_error_5 (zW_o hs8 (by decide)) rfl (by decide) zw_494 rfl (by rfl) ?_
    refine zr_tor ea10 ?_
    obtain ⟨le12, hs11, h⟩ := zoS_s h
    refine zr_get F 7 0 zd_OB_error_8 (zW_o hs11 (by decide)) rfl (by decide) zw_47 rfl (by rfl) ?_
    refine zr_pcn 11 rfl ?_
    refine zr_goto F 30 zd_OB_error_11 (by decide) ?_
    obtain rfl := Option.some.inj h
    exact zr_iret F hr zd_OB_error_30 (Nat.le_of_ble_eq_true rfl) (Nat.le_of_ble_eq_true rfl) ⟨rfl, rfl, rfl⟩
def F_OB_count (sh : zSh) (mm : zMem) (o : Nat) (x0_ : Int32) : Option (Int32 × zMem) := (if x0_ = 5 then zoS (sh o) 0 (fun le14 => Option.bind (mm.2.2 o 5) (fun a15 => zoS (sh a15) 8 (fun le17 => some ((mm.1 a15 8), mm)))) else (if (sp_OB_within x0_ 0 4) = 0 then some ((-1), mm) else zoS (sh o) 0 (fun le5 => Option.bind (mm.2.2 o 5) (fun a6 => zoS (sh a6) 8 (fun le8 => Option.bind (mm.2.2 a6 0) (fun a9 => zoS (sh a9) 100 (fun le11 => if (x0_ : Int32) < 0 ∨ le11 ≤ (x0_ : Int32).toNatClampNeg then none else some ((mm.1 a9 (x0_ : Int32).toNatClampNeg), mm))))))))
set_option maxHeartbeats 4000000 in
set_option maxRecDepth 100000 in
theorem k_OB_count (l : Launch) (D : va_G) (tA : Nat → ClassId) (b : Nat) (sh : zSh) (n : Nat) {mm : zMem} {o : Nat} {x0_ : Int32} {r : (Int32 × zMem)} (h : F_OB_count sh mm o x0_ = some r) : zM l D tA b zy_OB_count zb_OB_count 2 (some .int) 1 22 0 0 [.ref (b + o), .int x0_] (zW tA b sh mm) n (zE (some (.int (r.1))) (zW tA b sh r.2) n) := by
  unfold F_OB_count at h
  refine zM_of (own := "OrreryBox") (plainFor_of_name (by decide)) rfl (Nat.le_of_ble_eq_true rfl) (fun p e s m below meth c F hr hin hH => ?_)
  refine zr_iload_n F zd_OB_count_0 rfl ?_
  refine zr_iconstv (v := 5) F zd_OB_count_1 (by decide) ?_
  refine zr_icmp_ne F 13 zd_OB_count_2 (by decide) (fun hb1 => ?_) (fun hb1 => ?_)
  ·
    rw [if_neg hb1] at h
    refine zr_iload_n F zd_OB_count_13 rfl ?_
    refine zr_iconstv (v := 0) F zd_OB_count_14 (by decide) ?_
    refine zr_iconstv (v := 4) F zd_OB_count_15 (by decide) ?_
    refine zr_callS1 F (c_OB_within l D tA b _ _ x0_ 0 4) zd_OB_count_16 zs_OB_97 zq_OB_within rfl rfl ⟨(Nat.le_of_ble_eq_true rfl), (Nat.le_of_ble_eq_true rfl)⟩ (Nat.le_of_ble_eq_true rfl) ⟨(Nat.le_of_ble_eq_true rfl), (Nat.le_of_ble_eq_true rfl)⟩ ?_
    refine zr_pcn 19 rfl ?_
    refine zr_if_eq F 34 zd_OB_count_19 (by decide) (fun hb3 => ?_) (fun hb3 => ?_)
    ·
      rw [if_pos hb3] at h
      refine zr_iconstv (v := (-1)) F zd_OB_count_34 (by decide) ?_
      obtain rfl := Option.some.inj h
      exact zr_iret F hr zd_OB_count_35 (Nat.le_of_ble_eq_true rfl) (Nat.le_of_ble_eq_true rfl) ⟨rfl, rfl, rfl⟩
    ·
      rw [if_neg hb3] at h
      refine zr_aload_n F zd_OB_count_22 rfl ?_
      obtain ⟨le5, hs4, h⟩ := zoS_s h
      obtain ⟨a6, ea6, h⟩ := zoB_s h
      refine zr_get F 0 5 zd_OB_count_23 (zW_o hs4 (by decide)) rfl (by decide) zw_493 rfl (by rfl) ?_
      refine zr_tor ea6 ?_
      obtain ⟨le8, hs7, h⟩ := zoS_s h
      obtain ⟨a9, ea9, h⟩ := zoB_s h
      refine zr_get F 8 0 zd_OB_count_26 (zW_o hs7 (by decide)) rfl (by decide) zw_283 rfl (by rfl) ?_
      refine zr_tor ea9 ?_
      refine zr_iload_n F zd_OB_count_29 rfl ?_
      obtain ⟨le11, hs10, h⟩ := zoS_s h
      obtain ⟨hi12, h⟩ := zoI_s h
      refine zr_iald F zd_OB_count_30 (zW_a0 hs10) hi12 ?_
      refine zr_pcn 31 rfl ?_
      refine zr_goto F 35 zd_OB_count_31 (by decide) ?_
      obtain rfl := Option.some.inj h
      exact zr_iret F hr zd_OB_count_35 (Nat.le_of_ble_eq_true rfl) (Nat.le_of_ble_eq_true rfl) ⟨rfl, rfl, rfl⟩
  ·
    rw [if_pos hb1] at h
    refine zr_aload_n F zd_OB_count_5 rfl ?_
    obtain ⟨le14, hs13, h⟩ := zoS_s h
    obtain ⟨a15, ea15, h⟩ := zoB_s h
    refine zr_get F 0 5 zd_OB_count_6 (zW_o hs13 (by decide)) rfl (by decide) zw_493 rfl (by rfl) ?_
    refine zr_tor ea15 ?_
    obtain ⟨le17, hs16, h⟩ := zoS_s h
    refine zr_get F 8 8 zd_OB_count_9 (zW_o hs16 (by decide)) rfl (by decide) zw_310 rfl (by rfl) ?_
    obtain rfl := Option.some.inj h
    exact zr_iret F hr zd_OB_count_12 (Nat.le_of_ble_eq_true rfl) (Nat.le_of_ble_eq_true rfl) ⟨rfl, rfl, rfl⟩
def F_OB_camera (sh : zSh) (mm : zMem) (o : Nat) (x0_ : Int32) (x1_ : Int32) (x2_ : Int32) (x3_ : Int32) : Option (Int32 × zMem) := zoS (sh o) 0 (fun le2 => Option.bind (mm.2.2 o 5) (fun a3 => zoS (sh a3) 8 (fun le5 => Option.bind (mm.2.2 a3 6) (fun a6 => (if x0_ = 2 then (if (sp_OB_within x1_ 8 512) = 0 then (if (sp_OB_within x0_ 0 1) = 0 then some (0, mm) else (if (sp_OB_allWithin x1_ x2_ x3_ (sp_OB_reachOf x0_)) = 0 then some (0, mm) else zoL (3 * x0_) (fun i35 => zoS (sh a6) 100 (fun le37 => if (i35 : Int32) < 0 ∨ le37 ≤ (i35 : Int32).toNatClampNeg then none else zoL (mI mm a6 (i35 : Int32).toNatClampNeg x1_) (fun mm39 => zoL ((3 * x0_) + 1) (fun i40 => zoS (sh a6) 100 (fun le42 => if (i40 : Int32) < 0 ∨ le42 ≤ (i40 : Int32).toNatClampNeg then none else zoL (mI mm39 a6 (i40 : Int32).toNatClampNeg x2_) (fun mm44 => zoL ((3 * x0_) + 2) (fun i45 => zoS (sh a6) 100 (fun le47 => if (i45 : Int32) < 0 ∨ le47 ≤ (i45 : Int32).toNatClampNeg then none else zoL (mI mm44 a6 (i45 : Int32).toNatClampNeg x3_) (fun mm49 => some (1, mm49)))))))))))) else zoS (sh a6) 100 (fun le51 => if (6 : Int32) < 0 ∨ le51 ≤ (6 : Int32).toNatClampNeg then none else zoL (mI mm a6 (6 : Int32).toNatClampNeg x1_) (fun mm53 => some (1, mm53)))) else (if (sp_OB_within x0_ 0 1) = 0 then some (0, mm) else (if (sp_OB_allWithin x1_ x2_ x3_ (sp_OB_reachOf x0_)) = 0 then some (0, mm) else zoL (3 * x0_) (fun i13 => zoS (sh a6) 100 (fun le15 => if (i13 : Int32) < 0 ∨ le15 ≤ (i13 : Int32).toNatClampNeg then none else zoL (mI mm a6 (i13 : Int32).toNatClampNeg x1_) (fun mm17 => zoL ((3 * x0_) + 1) (fun i18 => zoS (sh a6) 100 (fun le20 => if (i18 : Int32) < 0 ∨ le20 ≤ (i18 : Int32).toNatClampNeg then none else zoL (mI mm17 a6 (i18 : Int32).toNatClampNeg x2_) (fun mm22 => zoL ((3 * x0_) + 2) (fun i23 => zoS (sh a6) 100 (fun le25 => if (i23 : Int32) < 0 ∨ le25 ≤ (i23 : Int32).toNatClampNeg then none else zoL (mI mm22 a6 (i23 : Int32).toNatClampNeg x3_) (fun mm27 => some (1, mm27)))))))))))))))))
set_option maxHeartbeats 4000000 in
set_option maxRecDepth 100000 in
theorem k_OB_camera (l : Launch) (D : va_G) (tA : Nat → ClassId) (b : Nat) (sh : zSh) (n : Nat) {mm : zMem} {o : Nat} {x0_ : Int32} {x1_ : Int32} {x2_ : Int32} {x3_ : Int32} {r : (Int32 × zMem)} (h : F_OB_camera sh mm o x0_ x1_ x2_ x3_ = some r) : zM l D tA b zy_OB_camera zb_OB_camera 6 (some .boolean) 2 45 0 0 [.ref (b + o), .int x0_, .int x1_, .int x2_, .int x3_] (zW tA b sh mm) n (zE (some (.int (r.1))) (zW tA b sh r.2) n) := by
  unfold F_OB_camera at h
  refine zM_of (own := "OrreryBox") (plainFor_of_name (by decide)) rfl (Nat.le_of_ble_eq_true rfl) (fun p e s m below meth c F hr hin hH => ?_)
  refine zr_aload_n F zd_OB_camera_0 rfl ?_
  obtain ⟨le2, hs1, h⟩ := zoS_s h
  obtain ⟨a3, ea3, h⟩ := zoB_s h
  refine zr_get F 0 5 zd_OB_camera_1 (zW_o hs1 (by decide)) rfl (by decide) zw_493 rfl (by rfl) ?_
  refine zr_tor ea3 ?_
  obtain ⟨le5, hs4, h⟩ := zoS_s h
  obtain ⟨a6, ea6, h⟩ := zoB_s h
  refine zr_get F 8 6 zd_OB_camera_4 (zW_o hs4 (by decide)) rfl (by decide) zw_304 rfl (by rfl) ?_
  refine zr_tor ea6 ?_
  refine zr_astore F zd_OB_camera_7 (by decide) ?_
  refine zr_iload_n F zd_OB_camera_9 rfl ?_
  refine zr_iconstv (v := 2) F zd_OB_camera_10 (by decide) ?_
  refine zr_icmp_ne F 34 zd_OB_camera_11 (by decide) (fun hb7 => ?_) (fun hb7 => ?_)
  ·
    rw [if_neg hb7] at h
    refine zr_pcn 34 rfl ?_
    refine zr_iload_n F zd_OB_camera_34 rfl ?_
    refine zr_iconstv (v := 0) F zd_OB_camera_35 (by decide) ?_
    refine zr_iconstv (v := 1) F zd_OB_camera_36 (by decide) ?_
    refine zr_callS1 F (c_OB_within l D tA b _ _ x0_ 0 1) zd_OB_camera_37 zs_OB_97 zq_OB_within rfl rfl ⟨(Nat.le_of_ble_eq_true rfl), (Nat.le_of_ble_eq_true rfl)⟩ (Nat.le_of_ble_eq_true rfl) ⟨(Nat.le_of_ble_eq_true rfl), (Nat.le_of_ble_eq_true rfl)⟩ ?_
    refine zr_if_eq F 57 zd_OB_camera_40 (by decide) (fun hb9 => ?_) (fun hb9 => ?_)
    ·
      rw [if_pos hb9] at h
      refine zr_iconstv (v := 0) F zd_OB_camera_57 (by decide) ?_
      obtain rfl := Option.some.inj h
      exact zr_zret F hr rfl zd_OB_camera_58 (Nat.le_of_ble_eq_true rfl) (Nat.le_of_ble_eq_true rfl) ⟨rfl, rfl, rfl⟩
    ·
      rw [if_neg hb9] at h
      refine zr_iload_n F zd_OB_camera_43 rfl ?_
      refine zr_pcn 44 rfl ?_
      refine zr_iload_n F zd_OB_camera_44 rfl ?_
      refine zr_iload F zd_OB_camera_45 rfl ?_
      refine zr_iload_n F zd_OB_camera_47 rfl ?_
      refine zr_callS1 F (c_OB_reachOf l D tA b _ _ x0_) zd_OB_camera_48 zs_OB_109 zq_OB_reachOf rfl rfl ⟨(Nat.le_of_ble_eq_true rfl), (Nat.le_of_ble_eq_true rfl)⟩ (Nat.le_of_ble_eq_true rfl) ⟨(Nat.le_of_ble_eq_true rfl), (Nat.le_of_ble_eq_true rfl)⟩ ?_
      refine zr_callS1 F (c_OB_allWithin l D tA b _ _ x1_ x2_ x3_ (sp_OB_reachOf x0_)) zd_OB_camera_51 zs_OB_113 zq_OB_allWithin rfl rfl ⟨(Nat.le_of_ble_eq_true rfl), (Nat.le_of_ble_eq_true rfl)⟩ (Nat.le_of_ble_eq_true rfl) ⟨(Nat.le_of_ble_eq_true rfl), (Nat.le_of_ble_eq_true rfl)⟩ ?_
      refine zr_if_ne F 59 zd_OB_camera_54 (by decide) (fun hb12 => ?_) (fun hb12 => ?_)
      ·
        rw [if_neg hb12] at h
        refine zr_aload F zd_OB_camera_59 rfl ?_
        refine zr_iconstv (v := 3) F zd_OB_camera_61 (by decide) ?_
        refine zr_pcn 62 rfl ?_
        refine zr_iload_n F zd_OB_camera_62 rfl ?_
        refine zr_imul F zd_OB_camera_63 ?_
        refine zr_iload_n F zd_OB_camera_64 rfl ?_
        obtain ⟨i13, ei13, h⟩ := zoL_s h
        rw [← ei13]
        obtain ⟨le15, hs14, h⟩ := zoS_s h
        obtain ⟨hi16, h⟩ := zoI_s h
        refine zr_iast F zd_OB_camera_65 (zW_a0 hs14) hi16 ?_
        obtain ⟨mm17, emm17, h⟩ := zoL_s h
        refine zr_norm (zW tA b sh mm17) _ (by rw [emm17]; exact zW_s0 hs14) rfl ?_
        refine zr_aload F zd_OB_camera_66 rfl ?_
        refine zr_iconstv (v := 3) F zd_OB_camera_68 (by decide) ?_
        refine zr_iload_n F zd_OB_camera_69 rfl ?_
        refine zr_imul F zd_OB_camera_70 ?_
        refine zr_pcn 71 rfl ?_
        refine zr_iconstv (v := 1) F zd_OB_camera_71 (by decide) ?_
        refine zr_iadd F zd_OB_camera_72 ?_
        refine zr_iload_n F zd_OB_camera_73 rfl ?_
        obtain ⟨i18, ei18, h⟩ := zoL_s h
        rw [← ei18]
        obtain ⟨le20, hs19, h⟩ := zoS_s h
        obtain ⟨hi21, h⟩ := zoI_s h
        refine zr_iast F zd_OB_camera_74 (zW_a0 hs19) hi21 ?_
        obtain ⟨mm22, emm22, h⟩ := zoL_s h
        refine zr_norm (zW tA b sh mm22) _ (by rw [emm22]; exact zW_s0 hs19) rfl ?_
        refine zr_aload F zd_OB_camera_75 rfl ?_
        refine zr_iconstv (v := 3) F zd_OB_camera_77 (by decide) ?_
        refine zr_iload_n F zd_OB_camera_78 rfl ?_
        refine zr_imul F zd_OB_camera_79 ?_
        refine zr_pcn 80 rfl ?_
        refine zr_iconstv (v := 2) F zd_OB_camera_80 (by decide) ?_
        refine zr_iadd F zd_OB_camera_81 ?_
        refine zr_iload F zd_OB_camera_82 rfl ?_
        obtain ⟨i23, ei23, h⟩ := zoL_s h
        rw [← ei23]
        obtain ⟨le25, hs24, h⟩ := zoS_s h
        obtain ⟨hi26, h⟩ := zoI_s h
        refine zr_iast F zd_OB_camera_84 (zW_a0 hs24) hi26 ?_
        obtain ⟨mm27, emm27, h⟩ := zoL_s h
        refine zr_norm (zW tA b sh mm27) _ (by rw [emm27]; exact zW_s0 hs24) rfl ?_
        refine zr_iconstv (v := 1) F zd_OB_camera_85 (by decide) ?_
        obtain rfl := Option.some.inj h
        exact zr_zret F hr rfl zd_OB_camera_86 (Nat.le_of_ble_eq_true rfl) (Nat.le_of_ble_eq_true rfl) ⟨rfl, rfl, rfl⟩
      ·
        rw [if_pos hb12] at h
        refine zr_iconstv (v := 0) F zd_OB_camera_57 (by decide) ?_
        obtain rfl := Option.some.inj h
        exact zr_zret F hr rfl zd_OB_camera_58 (Nat.le_of_ble_eq_true rfl) (Nat.le_of_ble_eq_true rfl) ⟨rfl, rfl, rfl⟩
  ·
    rw [if_pos hb7] at h
    refine zr_pcn 14 rfl ?_
    refine zr_iload_n F zd_OB_camera_14 rfl ?_
    refine zr_bipushv (v := 8) F zd_OB_camera_15 (by decide) ?_
    refine zr_sipushv (v := 512) F zd_OB_camera_17 (by decide) ?_
    refine zr_callS1 F (c_OB_within l D tA b _ _ x1_ 8 512) zd_OB_camera_20 zs_OB_97 zq_OB_within rfl rfl ⟨(Nat.le_of_ble_eq_true rfl), (Nat.le_of_ble_eq_true rfl)⟩ (Nat.le_of_ble_eq_true rfl) ⟨(Nat.le_of_ble_eq_true rfl), (Nat.le_of_ble_eq_true rfl)⟩ ?_
    refine zr_if_eq F 34 zd_OB_camera_23 (by decide) (fun hb29 => ?_) (fun hb29 => ?_)
    ·
      rw [if_pos hb29] at h
      refine zr_iload_n F zd_OB_camera_34 rfl ?_
      refine zr_iconstv (v := 0) F zd_OB_camera_35 (by decide) ?_
      refine zr_iconstv (v := 1) F zd_OB_camera_36 (by decide) ?_
      refine zr_pcn 37 rfl ?_
      refine zr_callS1 F (c_OB_within l D tA b _ _ x0_ 0 1) zd_OB_camera_37 zs_OB_97 zq_OB_within rfl rfl ⟨(Nat.le_of_ble_eq_true rfl), (Nat.le_of_ble_eq_true rfl)⟩ (Nat.le_of_ble_eq_true rfl) ⟨(Nat.le_of_ble_eq_true rfl), (Nat.le_of_ble_eq_true rfl)⟩ ?_
      refine zr_if_eq F 57 zd_OB_camera_40 (by decide) (fun hb31 => ?_) (fun hb31 => ?_)
      ·
        rw [if_pos hb31] at h
        refine zr_iconstv (v := 0) F zd_OB_camera_57 (by decide) ?_
        obtain rfl := Option.some.inj h
        exact zr_zret F hr rfl zd_OB_camera_58 (Nat.le_of_ble_eq_true rfl) (Nat.le_of_ble_eq_true rfl) ⟨rfl, rfl, rfl⟩
      ·
        rw [if_neg hb31] at h
        refine zr_iload_n F zd_OB_camera_43 rfl ?_
        refine zr_iload_n F zd_OB_camera_44 rfl ?_
        refine zr_iload F zd_OB_camera_45 rfl ?_
        refine zr_iload_n F zd_OB_camera_47 rfl ?_
        refine zr_pcn 48 rfl ?_
        refine zr_callS1 F (c_OB_reachOf l D tA b _ _ x0_) zd_OB_camera_48 zs_OB_109 zq_OB_reachOf rfl rfl ⟨(Nat.le_of_ble_eq_true rfl), (Nat.le_of_ble_eq_true rfl)⟩ (Nat.le_of_ble_eq_true rfl) ⟨(Nat.le_of_ble_eq_true rfl), (Nat.le_of_ble_eq_true rfl)⟩ ?_
        refine zr_callS1 F (c_OB_allWithin l D tA b _ _ x1_ x2_ x3_ (sp_OB_reachOf x0_)) zd_OB_camera_51 zs_OB_113 zq_OB_allWithin rfl rfl ⟨(Nat.le_of_ble_eq_true rfl), (Nat.le_of_ble_eq_true rfl)⟩ (Nat.le_of_ble_eq_true rfl) ⟨(Nat.le_of_ble_eq_true rfl), (Nat.le_of_ble_eq_true rfl)⟩ ?_
        refine zr_if_ne F 59 zd_OB_camera_54 (by decide) (fun hb34 => ?_) (fun hb34 => ?_)
        ·
          rw [if_neg hb34] at h
          refine zr_aload F zd_OB_camera_59 rfl ?_
          refine zr_iconstv (v := 3) F zd_OB_camera_61 (by decide) ?_
          refine zr_iload_n F zd_OB_camera_62 rfl ?_
          refine zr_imul F zd_OB_camera_63 ?_
          refine zr_iload_n F zd_OB_camera_64 rfl ?_
          refine zr_pcn 65 rfl ?_
          obtain ⟨i35, ei35, h⟩ := zoL_s h
          rw [← ei35]
          obtain ⟨le37, hs36, h⟩ := zoS_s h
          obtain ⟨hi38, h⟩ := zoI_s h
          refine zr_iast F zd_OB_camera_65 (zW_a0 hs36) hi38 ?_
          obtain ⟨mm39, emm39, h⟩ := zoL_s h
          refine zr_norm (zW tA b sh mm39) _ (by rw [emm39]; exact zW_s0 hs36) rfl ?_
          refine zr_aload F zd_OB_camera_66 rfl ?_
          refine zr_iconstv (v := 3) F zd_OB_camera_68 (by decide) ?_
          refine zr_iload_n F zd_OB_camera_69 rfl ?_
          refine zr_imul F zd_OB_camera_70 ?_
          refine zr_iconstv (v := 1) F zd_OB_camera_71 (by decide) ?_
          refine zr_iadd F zd_OB_camera_72 ?_
          refine zr_iload_n F zd_OB_camera_73 rfl ?_
          refine zr_pcn 74 rfl ?_
          obtain ⟨i40, ei40, h⟩ := zoL_s h
          rw [← ei40]
          obtain ⟨le42, hs41, h⟩ := zoS_s h
          obtain ⟨hi43, h⟩ := zoI_s h
          refine zr_iast F zd_OB_camera_74 (zW_a0 hs41) hi43 ?_
          obtain ⟨mm44, emm44, h⟩ := zoL_s h
          refine zr_norm (zW tA b sh mm44) _ (by rw [emm44]; exact zW_s0 hs41) rfl ?_
          refine zr_aload F zd_OB_camera_75 rfl ?_
          refine zr_iconstv (v := 3) F zd_OB_camera_77 (by decide) ?_
          refine zr_iload_n F zd_OB_camera_78 rfl ?_
          refine zr_imul F zd_OB_camera_79 ?_
          refine zr_iconstv (v := 2) F zd_OB_camera_80 (by decide) ?_
          refine zr_iadd F zd_OB_camera_81 ?_
          refine zr_iload F zd_OB_camera_82 rfl ?_
          refine zr_pcn 84 rfl ?_
          obtain ⟨i45, ei45, h⟩ := zoL_s h
          rw [← ei45]
          obtain ⟨le47, hs46, h⟩ := zoS_s h
          obtain ⟨hi48, h⟩ := zoI_s h
          refine zr_iast F zd_OB_camera_84 (zW_a0 hs46) hi48 ?_
          obtain ⟨mm49, emm49, h⟩ := zoL_s h
          refine zr_norm (zW tA b sh mm49) _ (by rw [emm49]; exact zW_s0 hs46) rfl ?_
          refine zr_iconstv (v := 1) F zd_OB_camera_85 (by decide) ?_
          obtain rfl := Option.some.inj h
          exact zr_zret F hr rfl zd_OB_camera_86 (Nat.le_of_ble_eq_true rfl) (Nat.le_of_ble_eq_true rfl) ⟨rfl, rfl, rfl⟩
        ·
          rw [if_pos hb34] at h
          refine zr_iconstv (v := 0) F zd_OB_camera_57 (by decide) ?_
          obtain rfl := Option.some.inj h
          exact zr_zret F hr rfl zd_OB_camera_58 (Nat.le_of_ble_eq_true rfl) (Nat.le_of_ble_eq_true rfl) ⟨rfl, rfl, rfl⟩
    ·
      rw [if_neg hb29] at h
      refine zr_aload F zd_OB_camera_26 rfl ?_
      refine zr_bipushv (v := 6) F zd_OB_camera_28 (by decide) ?_
      refine zr_iload_n F zd_OB_camera_30 rfl ?_
      refine zr_pcn 31 rfl ?_
      obtain ⟨le51, hs50, h⟩ := zoS_s h
      obtain ⟨hi52, h⟩ := zoI_s h
      refine zr_iast F zd_OB_camera_31 (zW_a0 hs50) hi52 ?_
      obtain ⟨mm53, emm53, h⟩ := zoL_s h
      refine zr_norm (zW tA b sh mm53) _ (by rw [emm53]; exact zW_s0 hs50) rfl ?_
      refine zr_iconstv (v := 1) F zd_OB_camera_32 (by decide) ?_
      obtain rfl := Option.some.inj h
      exact zr_zret F hr rfl zd_OB_camera_33 (Nat.le_of_ble_eq_true rfl) (Nat.le_of_ble_eq_true rfl) ⟨rfl, rfl, rfl⟩
def F_OB_light (sh : zSh) (mm : zMem) (o : Nat) (x0_ : Int32) (x1_ : Int32) (x2_ : Int32) (x3_ : Int32) : Option (Int32 × zMem) := (if (sp_OB_allWithin x0_ x1_ x2_ 65536) = 0 then some (0, mm) else (if (sp_OB_within x3_ 0 65536) = 0 then some (0, mm) else zoS (sh o) 0 (fun le6 => Option.bind (mm.2.2 o 5) (fun a7 => zoS (sh a7) 8 (fun le9 => Option.bind (mm.2.2 a7 7) (fun a10 => zoS (sh a10) 100 (fun le12 => if (0 : Int32) < 0 ∨ le12 ≤ (0 : Int32).toNatClampNeg then none else zoL (mI mm a10 (0 : Int32).toNatClampNeg x0_) (fun mm14 => zoS (sh o) 0 (fun le16 => Option.bind (mm14.2.2 o 5) (fun a17 => zoS (sh a17) 8 (fun le19 => Option.bind (mm14.2.2 a17 7) (fun a20 => zoS (sh a20) 100 (fun le22 => if (1 : Int32) < 0 ∨ le22 ≤ (1 : Int32).toNatClampNeg then none else zoL (mI mm14 a20 (1 : Int32).toNatClampNeg x1_) (fun mm24 => zoS (sh o) 0 (fun le26 => Option.bind (mm24.2.2 o 5) (fun a27 => zoS (sh a27) 8 (fun le29 => Option.bind (mm24.2.2 a27 7) (fun a30 => zoS (sh a30) 100 (fun le32 => if (2 : Int32) < 0 ∨ le32 ≤ (2 : Int32).toNatClampNeg then none else zoL (mI mm24 a30 (2 : Int32).toNatClampNeg x2_) (fun mm34 => zoS (sh o) 0 (fun le36 => Option.bind (mm34.2.2 o 5) (fun a37 => zoS (sh a37) 8 (fun le39 => Option.bind (mm34.2.2 a37 7) (fun a40 => zoS (sh a40) 100 (fun le42 => if (3 : Int32) < 0 ∨ le42 ≤ (3 : Int32).toNatClampNeg then none else zoL (mI mm34 a40 (3 : Int32).toNatClampNeg x3_) (fun mm44 => some (1, mm44)))))))))))))))))))))))))))
set_option maxHeartbeats 4000000 in
set_option maxRecDepth 100000 in
theorem k_OB_light (l : Launch) (D : va_G) (tA : Nat → ClassId) (b : Nat) (sh : zSh) (n : Nat) {mm : zMem} {o : Nat} {x0_ : Int32} {x1_ : Int32} {x2_ : Int32} {x3_ : Int32} {r : (Int32 × zMem)} (h : F_OB_light sh mm o x0_ x1_ x2_ x3_ = some r) : zM l D tA b zy_OB_light zb_OB_light 5 (some .boolean) 2 45 0 0 [.ref (b + o), .int x0_, .int x1_, .int x2_, .int x3_] (zW tA b sh mm) n (zE (some (.int (r.1))) (zW tA b sh r.2) n) := by
  unfold F_OB_light at h
  refine zM_of (own := "OrreryBox") (plainFor_of_name (by decide)) rfl (Nat.le_of_ble_eq_true rfl) (fun p e s m below meth c F hr hin hH => ?_)
  refine zr_iload_n F zd_OB_light_0 rfl ?_
  refine zr_iload_n F zd_OB_light_1 rfl ?_
  refine zr_iload_n F zd_OB_light_2 rfl ?_
  refine zr_ldc F zd_OB_light_3 zw_37 ?_
  refine zr_callS1 F (c_OB_allWithin l D tA b _ _ x0_ x1_ x2_ 65536) zd_OB_light_5 zs_OB_113 zq_OB_allWithin rfl rfl ⟨(Nat.le_of_ble_eq_true rfl), (Nat.le_of_ble_eq_true rfl)⟩ (Nat.le_of_ble_eq_true rfl) ⟨(Nat.le_of_ble_eq_true rfl), (Nat.le_of_ble_eq_true rfl)⟩ ?_
  refine zr_if_eq F 22 zd_OB_light_8 (by decide) (fun hb2 => ?_) (fun hb2 => ?_)
  ·
    rw [if_pos hb2] at h
    refine zr_iconstv (v := 0) F zd_OB_light_22 (by decide) ?_
    refine zr_pcn 23 rfl ?_
    obtain rfl := Option.some.inj h
    exact zr_zret F hr rfl zd_OB_light_23 (Nat.le_of_ble_eq_true rfl) (Nat.le_of_ble_eq_true rfl) ⟨rfl, rfl, rfl⟩
  ·
    rw [if_neg hb2] at h
    refine zr_iload F zd_OB_light_11 rfl ?_
    refine zr_iconstv (v := 0) F zd_OB_light_13 (by decide) ?_
    refine zr_ldc F zd_OB_light_14 zw_37 ?_
    refine zr_callS1 F (c_OB_within l D tA b _ _ x3_ 0 65536) zd_OB_light_16 zs_OB_97 zq_OB_within rfl rfl ⟨(Nat.le_of_ble_eq_true rfl), (Nat.le_of_ble_eq_true rfl)⟩ (Nat.le_of_ble_eq_true rfl) ⟨(Nat.le_of_ble_eq_true rfl), (Nat.le_of_ble_eq_true rfl)⟩ ?_
    refine zr_if_ne F 24 zd_OB_light_19 (by decide) (fun hb4 => ?_) (fun hb4 => ?_)
    ·
      rw [if_neg hb4] at h
      refine zr_aload_n F zd_OB_light_24 rfl ?_
      obtain ⟨le6, hs5, h⟩ := zoS_s h
      obtain ⟨a7, ea7, h⟩ := zoB_s h
      refine zr_get F 0 5 zd_OB_light_25 (zW_o hs5 (by decide)) rfl (by decide) zw_493 rfl (by rfl) ?_
      refine zr_tor ea7 ?_
      refine zr_pcn 28 rfl ?_
      obtain ⟨le9, hs8, h⟩ := zoS_s h
      obtain ⟨a10, ea10, h⟩ := zoB_s h
      refine zr_get F 8 7 zd_OB_light_28 (zW_o hs8 (by decide)) rfl (by decide) zw_307 rfl (by rfl) ?_
      refine zr_tor ea10 ?_
      refine zr_iconstv (v := 0) F zd_OB_light_31 (by decide) ?_
      refine zr_iload_n F zd_OB_light_32 rfl ?_
      obtain ⟨le12, hs11, h⟩ := zoS_s h
      obtain ⟨hi13, h⟩ := zoI_s h
      refine zr_iast F zd_OB_light_33 (zW_a0 hs11) hi13 ?_
      obtain ⟨mm14, emm14, h⟩ := zoL_s h
      refine zr_norm (zW tA b sh mm14) _ (by rw [emm14]; exact zW_s0 hs11) rfl ?_
      refine zr_aload_n F zd_OB_light_34 rfl ?_
      obtain ⟨le16, hs15, h⟩ := zoS_s h
      obtain ⟨a17, ea17, h⟩ := zoB_s h
      refine zr_get F 0 5 zd_OB_light_35 (zW_o hs15 (by decide)) rfl (by decide) zw_493 rfl (by rfl) ?_
      refine zr_tor ea17 ?_
      obtain ⟨le19, hs18, h⟩ := zoS_s h
      obtain ⟨a20, ea20, h⟩ := zoB_s h
      refine zr_get F 8 7 zd_OB_light_38 (zW_o hs18 (by decide)) rfl (by decide) zw_307 rfl (by rfl) ?_
      refine zr_tor ea20 ?_
      refine zr_iconstv (v := 1) F zd_OB_light_41 (by decide) ?_
      refine zr_pcn 42 rfl ?_
      refine zr_iload_n F zd_OB_light_42 rfl ?_
      obtain ⟨le22, hs21, h⟩ := zoS_s h
      obtain ⟨hi23, h⟩ := zoI_s h
      refine zr_iast F zd_OB_light_43 (zW_a0 hs21) hi23 ?_
      obtain ⟨mm24, emm24, h⟩ := zoL_s h
      refine zr_norm (zW tA b sh mm24) _ (by rw [emm24]; exact zW_s0 hs21) rfl ?_
      refine zr_aload_n F zd_OB_light_44 rfl ?_
      obtain ⟨le26, hs25, h⟩ := zoS_s h
      obtain ⟨a27, ea27, h⟩ := zoB_s h
      refine zr_get F 0 5 zd_OB_light_45 (zW_o hs25 (by decide)) rfl (by decide) zw_493 rfl (by rfl) ?_
      refine zr_tor ea27 ?_
      obtain ⟨le29, hs28, h⟩ := zoS_s h
      obtain ⟨a30, ea30, h⟩ := zoB_s h
      refine zr_get F 8 7 zd_OB_light_48 (zW_o hs28 (by decide)) rfl (by decide) zw_307 rfl (by rfl) ?_
      refine zr_tor ea30 ?_
      refine zr_iconstv (v := 2) F zd_OB_light_51 (by decide) ?_
      refine zr_iload_n F zd_OB_light_52 rfl ?_
      obtain ⟨le32, hs31, h⟩ := zoS_s h
      obtain ⟨hi33, h⟩ := zoI_s h
      refine zr_iast F zd_OB_light_53 (zW_a0 hs31) hi33 ?_
      obtain ⟨mm34, emm34, h⟩ := zoL_s h
      refine zr_norm (zW tA b sh mm34) _ (by rw [emm34]; exact zW_s0 hs31) rfl ?_
      refine zr_pcn 54 rfl ?_
      refine zr_aload_n F zd_OB_light_54 rfl ?_
      obtain ⟨le36, hs35, h⟩ := zoS_s h
      obtain ⟨a37, ea37, h⟩ := zoB_s h
      refine zr_get F 0 5 zd_OB_light_55 (zW_o hs35 (by decide)) rfl (by decide) zw_493 rfl (by rfl) ?_
      refine zr_tor ea37 ?_
      obtain ⟨le39, hs38, h⟩ := zoS_s h
      obtain ⟨a40, ea40, h⟩ := zoB_s h
      refine zr_get F 8 7 zd_OB_light_58 (zW_o hs38 (by decide)) rfl (by decide) zw_307 rfl (by rfl) ?_
      refine zr_tor ea40 ?_
      refine zr_iconstv (v := 3) F zd_OB_light_61 (by decide) ?_
      refine zr_iload F zd_OB_light_62 rfl ?_
      obtain ⟨le42, hs41, h⟩ := zoS_s h
      obtain ⟨hi43, h⟩ := zoI_s h
      refine zr_iast F zd_OB_light_64 (zW_a0 hs41) hi43 ?_
      obtain ⟨mm44, emm44, h⟩ := zoL_s h
      refine zr_norm (zW tA b sh mm44) _ (by rw [emm44]; exact zW_s0 hs41) rfl ?_
      refine zr_iconstv (v := 1) F zd_OB_light_65 (by decide) ?_
      obtain rfl := Option.some.inj h
      exact zr_zret F hr rfl zd_OB_light_66 (Nat.le_of_ble_eq_true rfl) (Nat.le_of_ble_eq_true rfl) ⟨rfl, rfl, rfl⟩
    ·
      rw [if_pos hb4] at h
      refine zr_pcn 22 rfl ?_
      refine zr_iconstv (v := 0) F zd_OB_light_22 (by decide) ?_
      obtain rfl := Option.some.inj h
      exact zr_zret F hr rfl zd_OB_light_23 (Nat.le_of_ble_eq_true rfl) (Nat.le_of_ble_eq_true rfl) ⟨rfl, rfl, rfl⟩
theorem zf_I_0_10 (b : Nat) (m : zMem) (k : Nat) (v : Int32) : (zfl b 0 m k).set 10 (.int v) = zfl b 0 (mI m k 10 v) k := by simp [zfl, mI, upd, vp_updL]
def F_OB_background (sh : zSh) (mm : zMem) (o : Nat) (x0_ : Int32) (x1_ : Int32) (x2_ : Int32) : Option (Int32 × zMem) := (if (sp_OB_within x0_ 0 255) = 0 then some (0, mm) else (if (sp_OB_within x1_ 0 255) = 0 then some (0, mm) else (if (sp_OB_within x2_ 0 255) = 0 then some (0, mm) else zoL (((x0_ <<< (16 &&& 31)) ||| (x1_ <<< (8 &&& 31))) ||| x2_) (fun x7 => zoS (sh o) 0 (fun le9 => zoL (mI mm o 10 x7) (fun mm10 => some (1, mm10)))))))
set_option maxHeartbeats 4000000 in
set_option maxRecDepth 100000 in
theorem k_OB_background (l : Launch) (D : va_G) (tA : Nat → ClassId) (b : Nat) (sh : zSh) (n : Nat) {mm : zMem} {o : Nat} {x0_ : Int32} {x1_ : Int32} {x2_ : Int32} {r : (Int32 × zMem)} (h : F_OB_background sh mm o x0_ x1_ x2_ = some r) : zM l D tA b zy_OB_background zb_OB_background 4 (some .boolean) 1 22 0 0 [.ref (b + o), .int x0_, .int x1_, .int x2_] (zW tA b sh mm) n (zE (some (.int (r.1))) (zW tA b sh r.2) n) := by
  unfold F_OB_background at h
  refine zM_of (own := "OrreryBox") (plainFor_of_name (by decide)) rfl (Nat.le_of_ble_eq_true rfl) (fun p e s m below meth c F hr hin hH => ?_)
  refine zr_iload_n F zd_OB_background_0 rfl ?_
  refine zr_iconstv (v := 0) F zd_OB_background_1 (by decide) ?_
  refine zr_sipushv (v := 255) F zd_OB_background_2 (by decide) ?_
  refine zr_callS1 F (c_OB_within l D tA b _ _ x0_ 0 255) zd_OB_background_5 zs_OB_97 zq_OB_within rfl rfl ⟨(Nat.le_of_ble_eq_true rfl), (Nat.le_of_ble_eq_true rfl)⟩ (Nat.le_of_ble_eq_true rfl) ⟨(Nat.le_of_ble_eq_true rfl), (Nat.le_of_ble_eq_true rfl)⟩ ?_
  refine zr_if_eq F 33 zd_OB_background_8 (by decide) (fun hb2 => ?_) (fun hb2 => ?_)
  ·
    rw [if_pos hb2] at h
    refine zr_iconstv (v := 0) F zd_OB_background_33 (by decide) ?_
    obtain rfl := Option.some.inj h
    exact zr_zret F hr rfl zd_OB_background_34 (Nat.le_of_ble_eq_true rfl) (Nat.le_of_ble_eq_true rfl) ⟨rfl, rfl, rfl⟩
  ·
    rw [if_neg hb2] at h
    refine zr_pcn 11 rfl ?_
    refine zr_iload_n F zd_OB_background_11 rfl ?_
    refine zr_iconstv (v := 0) F zd_OB_background_12 (by decide) ?_
    refine zr_sipushv (v := 255) F zd_OB_background_13 (by decide) ?_
    refine zr_callS1 F (c_OB_within l D tA b _ _ x1_ 0 255) zd_OB_background_16 zs_OB_97 zq_OB_within rfl rfl ⟨(Nat.le_of_ble_eq_true rfl), (Nat.le_of_ble_eq_true rfl)⟩ (Nat.le_of_ble_eq_true rfl) ⟨(Nat.le_of_ble_eq_true rfl), (Nat.le_of_ble_eq_true rfl)⟩ ?_
    refine zr_if_eq F 33 zd_OB_background_19 (by decide) (fun hb4 => ?_) (fun hb4 => ?_)
    ·
      rw [if_pos hb4] at h
      refine zr_iconstv (v := 0) F zd_OB_background_33 (by decide) ?_
      obtain rfl := Option.some.inj h
      exact zr_zret F hr rfl zd_OB_background_34 (Nat.le_of_ble_eq_true rfl) (Nat.le_of_ble_eq_true rfl) ⟨rfl, rfl, rfl⟩
    ·
      rw [if_neg hb4] at h
      refine zr_iload_n F zd_OB_background_22 rfl ?_
      refine zr_pcn 23 rfl ?_
      refine zr_iconstv (v := 0) F zd_OB_background_23 (by decide) ?_
      refine zr_sipushv (v := 255) F zd_OB_background_24 (by decide) ?_
      refine zr_callS1 F (c_OB_within l D tA b _ _ x2_ 0 255) zd_OB_background_27 zs_OB_97 zq_OB_within rfl rfl ⟨(Nat.le_of_ble_eq_true rfl), (Nat.le_of_ble_eq_true rfl)⟩ (Nat.le_of_ble_eq_true rfl) ⟨(Nat.le_of_ble_eq_true rfl), (Nat.le_of_ble_eq_true rfl)⟩ ?_
      refine zr_if_ne F 35 zd_OB_background_30 (by decide) (fun hb6 => ?_) (fun hb6 => ?_)
      ·
        rw [if_neg hb6] at h
        refine zr_aload_n F zd_OB_background_35 rfl ?_
        refine zr_iload_n F zd_OB_background_36 rfl ?_
        refine zr_bipushv (v := 16) F zd_OB_background_37 (by decide) ?_
        refine zr_ishl F zd_OB_background_39 ?_
        refine zr_pcn 40 rfl ?_
        refine zr_iload_n F zd_OB_background_40 rfl ?_
        refine zr_bipushv (v := 8) F zd_OB_background_41 (by decide) ?_
        refine zr_ishl F zd_OB_background_43 ?_
        refine zr_ior F zd_OB_background_44 ?_
        refine zr_iload_n F zd_OB_background_45 rfl ?_
        refine zr_ior F zd_OB_background_46 ?_
        obtain ⟨x7, ex7, h⟩ := zoL_s h
        rw [← ex7]
        obtain ⟨le9, hs8, h⟩ := zoS_s h
        refine zr_put F 0 10 zd_OB_background_47 (zW_o hs8 (by decide)) rfl (by decide) zw_498 rfl rfl rfl rfl (by exact (Nat.le_of_ble_eq_true rfl)) ?_
        obtain ⟨mm10, emm10, h⟩ := zoL_s h
        refine zr_norm (zW tA b sh mm10) _ (by rw [emm10]; exact zW_pI (v := x7) hs8 (by decide) (zf_I_0_10 b _ _ _)) rfl ?_
        refine zr_iconstv (v := 1) F zd_OB_background_50 (by decide) ?_
        refine zr_pcn 51 rfl ?_
        obtain rfl := Option.some.inj h
        exact zr_zret F hr rfl zd_OB_background_51 (Nat.le_of_ble_eq_true rfl) (Nat.le_of_ble_eq_true rfl) ⟨rfl, rfl, rfl⟩
      ·
        rw [if_pos hb6] at h
        refine zr_iconstv (v := 0) F zd_OB_background_33 (by decide) ?_
        obtain rfl := Option.some.inj h
        exact zr_zret F hr rfl zd_OB_background_34 (Nat.le_of_ble_eq_true rfl) (Nat.le_of_ble_eq_true rfl) ⟨rfl, rfl, rfl⟩
def F_OB_picked (sh : zSh) (mm : zMem) (o : Nat) : Option (Int32 × zMem) := zoS (sh o) 0 (fun le2 => some ((mm.1 o 11), mm))
set_option maxHeartbeats 4000000 in
set_option maxRecDepth 100000 in
theorem k_OB_picked (l : Launch) (D : va_G) (tA : Nat → ClassId) (b : Nat) (sh : zSh) (n : Nat) {mm : zMem} {o : Nat} {r : (Int32 × zMem)} (h : F_OB_picked sh mm o = some r) : zM l D tA b zy_OB_picked zb_OB_picked 1 (some .int) 0 0 0 0 [.ref (b + o)] (zW tA b sh mm) n (zE (some (.int (r.1))) (zW tA b sh r.2) n) := by
  unfold F_OB_picked at h
  refine zM_of (own := "OrreryBox") (plainFor_of_name (by decide)) rfl (Nat.le_of_ble_eq_true rfl) (fun p e s m below meth c F hr hin hH => ?_)
  refine zr_aload_n F zd_OB_picked_0 rfl ?_
  obtain ⟨le2, hs1, h⟩ := zoS_s h
  refine zr_get F 0 11 zd_OB_picked_1 (zW_o hs1 (by decide)) rfl (by decide) zw_499 rfl (by rfl) ?_
  obtain rfl := Option.some.inj h
  exact zr_iret F hr zd_OB_picked_4 (Nat.le_of_ble_eq_true rfl) (Nat.le_of_ble_eq_true rfl) ⟨rfl, rfl, rfl⟩
def F_OB_byteAt (sh : zSh) (mm : zMem) (o : Nat) (x0_ : Int32) : Option (Int32 × zMem) := zoS (sh o) 0 (fun le2 => Option.bind (mm.2.2 o 9) (fun a3 => zoS (sh a3) 4 (fun le5 => (if (sp_OB_within x0_ 0 ((mm.1 a3 1) - 1)) = 0 then some ((-1), mm) else zoS (sh o) 0 (fun le9 => Option.bind (mm.2.2 o 9) (fun a10 => zoS (sh a10) 4 (fun le12 => Option.bind (mm.2.2 a10 0) (fun a13 => zoS (sh a13) 101 (fun le15 => if (x0_ : Int32) < 0 ∨ le15 ≤ (x0_ : Int32).toNatClampNeg then none else some (((mm.1 a13 (x0_ : Int32).toNatClampNeg) &&& 255), mm))))))))))
set_option maxHeartbeats 4000000 in
set_option maxRecDepth 100000 in
theorem k_OB_byteAt (l : Launch) (D : va_G) (tA : Nat → ClassId) (b : Nat) (sh : zSh) (n : Nat) {mm : zMem} {o : Nat} {x0_ : Int32} {r : (Int32 × zMem)} (h : F_OB_byteAt sh mm o x0_ = some r) : zM l D tA b zy_OB_byteAt zb_OB_byteAt 2 (some .int) 1 22 0 0 [.ref (b + o), .int x0_] (zW tA b sh mm) n (zE (some (.int (r.1))) (zW tA b sh r.2) n) := by
  unfold F_OB_byteAt at h
  refine zM_of (own := "OrreryBox") (plainFor_of_name (by decide)) rfl (Nat.le_of_ble_eq_true rfl) (fun p e s m below meth c F hr hin hH => ?_)
  refine zr_iload_n F zd_OB_byteAt_0 rfl ?_
  refine zr_iconstv (v := 0) F zd_OB_byteAt_1 (by decide) ?_
  refine zr_aload_n F zd_OB_byteAt_2 rfl ?_
  obtain ⟨le2, hs1, h⟩ := zoS_s h
  obtain ⟨a3, ea3, h⟩ := zoB_s h
  refine zr_get F 0 9 zd_OB_byteAt_3 (zW_o hs1 (by decide)) rfl (by decide) zw_497 rfl (by rfl) ?_
  refine zr_tor ea3 ?_
  obtain ⟨le5, hs4, h⟩ := zoS_s h
  refine zr_get F 4 1 zd_OB_byteAt_6 (zW_o hs4 (by decide)) rfl (by decide) zw_84 rfl (by rfl) ?_
  refine zr_iconstv (v := 1) F zd_OB_byteAt_9 (by decide) ?_
  refine zr_isub F zd_OB_byteAt_10 ?_
  refine zr_pcn 11 rfl ?_
  refine zr_callS1 F (c_OB_within l D tA b _ _ x0_ 0 ((mm.1 a3 1) - 1)) zd_OB_byteAt_11 zs_OB_97 zq_OB_within rfl rfl ⟨(Nat.le_of_ble_eq_true rfl), (Nat.le_of_ble_eq_true rfl)⟩ (Nat.le_of_ble_eq_true rfl) ⟨(Nat.le_of_ble_eq_true rfl), (Nat.le_of_ble_eq_true rfl)⟩ ?_
  refine zr_if_eq F 33 zd_OB_byteAt_14 (by decide) (fun hb7 => ?_) (fun hb7 => ?_)
  ·
    rw [if_pos hb7] at h
    refine zr_iconstv (v := (-1)) F zd_OB_byteAt_33 (by decide) ?_
    obtain rfl := Option.some.inj h
    exact zr_iret F hr zd_OB_byteAt_34 (Nat.le_of_ble_eq_true rfl) (Nat.le_of_ble_eq_true rfl) ⟨rfl, rfl, rfl⟩
  ·
    rw [if_neg hb7] at h
    refine zr_aload_n F zd_OB_byteAt_17 rfl ?_
    obtain ⟨le9, hs8, h⟩ := zoS_s h
    obtain ⟨a10, ea10, h⟩ := zoB_s h
    refine zr_get F 0 9 zd_OB_byteAt_18 (zW_o hs8 (by decide)) rfl (by decide) zw_497 rfl (by rfl) ?_
    refine zr_tor ea10 ?_
    obtain ⟨le12, hs11, h⟩ := zoS_s h
    obtain ⟨a13, ea13, h⟩ := zoB_s h
    refine zr_get F 4 0 zd_OB_byteAt_21 (zW_o hs11 (by decide)) rfl (by decide) zw_82 rfl (by rfl) ?_
    refine zr_tor ea13 ?_
    refine zr_iload_n F zd_OB_byteAt_24 rfl ?_
    refine zr_pcn 25 rfl ?_
    obtain ⟨le15, hs14, h⟩ := zoS_s h
    obtain ⟨hi16, h⟩ := zoI_s h
    refine zr_bald F zd_OB_byteAt_25 (zW_a1 hs14) hi16 ?_
    refine zr_sipushv (v := 255) F zd_OB_byteAt_26 (by decide) ?_
    refine zr_iand F zd_OB_byteAt_29 ?_
    refine zr_goto F 34 zd_OB_byteAt_30 (by decide) ?_
    obtain rfl := Option.some.inj h
    exact zr_iret F hr zd_OB_byteAt_34 (Nat.le_of_ble_eq_true rfl) (Nat.le_of_ble_eq_true rfl) ⟨rfl, rfl, rfl⟩
def L_OB_tapeNumber_3 (sh : zSh) (fuel : Nat) (v0 : Nat) (v1 : Int32) (v2 : Int32) (mm : zMem) : Option (Nat × Int32 × Int32 × zMem) := match fuel with
  | 0 => none
  | fu + 1 => (if v2 < 0 then some (v0, v1, v2, mm) else zoS (sh v0) 0 (fun le3 => Option.bind (mm.2.2 v0 2) (fun a4 => zoS (sh v0) 0 (fun le6 => zoL (((v1 >>> (v2 &&& 31)) : Int32).toInt8.toInt32) (fun x7 => zoL (mm.1 v0 3) (fun i8 => zoS (sh a4) 101 (fun le10 => if (i8 : Int32) < 0 ∨ le10 ≤ (i8 : Int32).toNatClampNeg then none else zoL (mI mm a4 (i8 : Int32).toNatClampNeg (vp_nar .byte x7)) (fun mm12 => zoS (sh v0) 0 (fun le14 => zoL ((mm12.1 v0 3) + 1) (fun x15 => zoS (sh v0) 0 (fun le17 => zoL (mI mm12 v0 3 x15) (fun mm18 => L_OB_tapeNumber_3 sh fu v0 v1 (v2 + (-8)) mm18))))))))))))
set_option maxHeartbeats 4000000 in
set_option maxRecDepth 100000 in
theorem lp_OB_tapeNumber_3 {p : Program} {l : Launch} {e : Env} {s : State} {m : MethodId} {args : Array Value} {below : List Frame} {meth : Method} {c : Code} {D : va_G} {tA : Nat → ClassId} {b n : Nat} {post : Option Value → zV → Nat → Prop} {sh : zSh} (F : zF p s m args meth c zb_OB_tapeNumber 3 "OrreryBox" D tA b) : ∀ (fuel : Nat) (v0 : Nat) (v1 : Int32) (v2 : Int32) (mm : zMem) (r : Nat × Int32 × Int32 × zMem), L_OB_tapeNumber_3 sh fuel v0 v1 v2 mm = some r → (Z p l e { frames := 0, cells := 0, slots := 0, locals := 0 } s m args below meth c D b 3 (MQ below (zQ D b post) args s 0 0 (fun q => b ≤ q)) (zW tA b sh r.2.2.2) n 0 0 36 [(0, .ref (b + (r.1))), (1, .int (r.2.1)), (2, .int (r.2.2.1))] []) → Z p l e { frames := 0, cells := 0, slots := 0, locals := 0 } s m args below meth c D b 3 (MQ below (zQ D b post) args s 0 0 (fun q => b ≤ q)) (zW tA b sh mm) n 0 0 3 [(0, .ref (b + v0)), (1, .int v1), (2, .int v2)] [] := by
  intro fuel
  induction fuel with
  | zero =>
    intro v0 v1 v2 mm r h
    cases h
  | succ fu ih =>
    intro v0 v1 v2 mm r h hx0
    rw [L_OB_tapeNumber_3] at h
    refine zr_iload_n F zd_OB_tapeNumber_3 rfl ?_
    refine zr_if_lt F 36 zd_OB_tapeNumber_4 (by decide) (fun hb1 => ?_) (fun hb1 => ?_)
    ·
      rw [if_pos hb1] at h
      obtain rfl := Option.some.inj h
      refine zr_loc (L' := [(0, .ref (b + v0)), (1, .int v1), (2, .int v2)]) ⟨rfl, rfl, rfl, trivial⟩ ?_
      exact hx0 
    ·
      rw [if_neg hb1] at h
      refine zr_aload_n F zd_OB_tapeNumber_7 rfl ?_
      obtain ⟨le3, hs2, h⟩ := zoS_s h
      obtain ⟨a4, ea4, h⟩ := zoB_s h
      refine zr_get F 0 2 zd_OB_tapeNumber_8 (zW_o hs2 (by decide)) rfl (by decide) zw_490 rfl (by rfl) ?_
      refine zr_tor ea4 ?_
      refine zr_aload_n F zd_OB_tapeNumber_11 rfl ?_
      refine zr_pcn 12 rfl ?_
      obtain ⟨le6, hs5, h⟩ := zoS_s h
      refine zr_get F 0 3 zd_OB_tapeNumber_12 (zW_o hs5 (by decide)) rfl (by decide) zw_491 rfl (by rfl) ?_
      refine zr_iload_n F zd_OB_tapeNumber_15 rfl ?_
      refine zr_iload_n F zd_OB_tapeNumber_16 rfl ?_
      refine zr_ishr F zd_OB_tapeNumber_17 ?_
      refine zr_i2b F zd_OB_tapeNumber_18 ?_
      obtain ⟨x7, ex7, h⟩ := zoL_s h
      rw [← ex7]
      obtain ⟨i8, ei8, h⟩ := zoL_s h
      rw [← ei8]
      obtain ⟨le10, hs9, h⟩ := zoS_s h
      obtain ⟨hi11, h⟩ := zoI_s h
      refine zr_bast F zd_OB_tapeNumber_19 (zW_a1 hs9) hi11 ?_
      obtain ⟨mm12, emm12, h⟩ := zoL_s h
      refine zr_norm (zW tA b sh mm12) _ (by rw [emm12]; exact zW_s1 hs9) rfl ?_
      refine zr_aload_n F zd_OB_tapeNumber_20 rfl ?_
      refine zr_dup F zd_OB_tapeNumber_21 rfl ?_
      refine zr_pcn 22 rfl ?_
      obtain ⟨le14, hs13, h⟩ := zoS_s h
      refine zr_get F 0 3 zd_OB_tapeNumber_22 (zW_o hs13 (by decide)) rfl (by decide) zw_491 rfl (by rfl) ?_
      refine zr_iconstv (v := 1) F zd_OB_tapeNumber_25 (by decide) ?_
      refine zr_iadd F zd_OB_tapeNumber_26 ?_
      obtain ⟨x15, ex15, h⟩ := zoL_s h
      rw [← ex15]
      obtain ⟨le17, hs16, h⟩ := zoS_s h
      refine zr_put F 0 3 zd_OB_tapeNumber_27 (zW_o hs16 (by decide)) rfl (by decide) zw_491 rfl rfl rfl rfl (by exact (Nat.le_of_ble_eq_true rfl)) ?_
      obtain ⟨mm18, emm18, h⟩ := zoL_s h
      refine zr_norm (zW tA b sh mm18) _ (by rw [emm18]; exact zW_pI (v := x15) hs16 (by decide) (zf_I_0_3 b _ _ _)) rfl ?_
      refine zr_iinc (v := (v2 + (-8))) F zd_OB_tapeNumber_30 rfl rfl (by decide) ?_
      refine zr_goto F 3 zd_OB_tapeNumber_33 (by decide) ?_
      refine zr_loc (L' := [(0, .ref (b + v0)), (1, .int v1), (2, .int (v2 + (-8)))]) ⟨rfl, rfl, rfl, trivial⟩ ?_
      exact ih _ _ _ _ _ h hx0
def F_OB_tapeNumber (sh : zSh) (mm : zMem) (o : Nat) (x0_ : Int32) : Option zMem := Option.bind (L_OB_tapeNumber_3 sh zfuel o x0_ 24 mm) (fun q19 => some (q19.2.2.2))
set_option maxHeartbeats 4000000 in
set_option maxRecDepth 100000 in
theorem k_OB_tapeNumber (l : Launch) (D : va_G) (tA : Nat → ClassId) (b : Nat) (sh : zSh) (n : Nat) {mm : zMem} {o : Nat} {x0_ : Int32} {r : zMem} (h : F_OB_tapeNumber sh mm o x0_ = some r) : zM l D tA b zy_OB_tapeNumber zb_OB_tapeNumber 3 none 0 0 0 0 [.ref (b + o), .int x0_] (zW tA b sh mm) n (zE none (zW tA b sh r) n) := by
  unfold F_OB_tapeNumber at h
  refine zM_of (own := "OrreryBox") (plainFor_of_name (by decide)) rfl (Nat.le_of_ble_eq_true rfl) (fun p e s m below meth c F hr hin hH => ?_)
  refine zr_bipushv (v := 24) F zd_OB_tapeNumber_0 (by decide) ?_
  refine zr_istore_n F zd_OB_tapeNumber_2 (by decide) ?_
  obtain ⟨q19, eq19, h⟩ := zoB_s h
  refine zr_loc (L' := [(0, .ref (b + o)), (1, .int x0_), (2, .int 24)]) ⟨rfl, rfl, rfl, trivial⟩ ?_
  refine lp_OB_tapeNumber_3 F _ _ _ _ _ _ eq19 ?_
  ·
    obtain rfl := Option.some.inj h
    exact zr_vret F hr zd_OB_tapeNumber_36 (Nat.le_of_ble_eq_true rfl) (Nat.le_of_ble_eq_true rfl) ⟨rfl, rfl, rfl⟩
def L_OB_freeScene_9 (sh : zSh) (fuel : Nat) (v0 : Nat) (v1 : Nat) (v2 : Int32) (mm : zMem) : Option (Nat × Nat × Int32 × zMem) := match fuel with
  | 0 => none
  | fu + 1 => zoS (sh v0) 0 (fun le10 => Option.bind (mm.2.2 v0 4) (fun a11 => zoR (sh a11) (fun t14 le13 => (if (Int32.ofNat le13) ≤ v2 then some (v0, v1, v2, mm) else zoS (sh v0) 0 (fun le17 => Option.bind (mm.2.2 v0 4) (fun a18 => zoR (sh a18) (fun t22 le20 => if (v2 : Int32) < 0 ∨ le20 ≤ (v2 : Int32).toNatClampNeg then none else Option.bind (mm.2.2 a18 (v2 : Int32).toNatClampNeg) (fun a23 => zoS (sh v0) 0 (fun le25 => Option.bind (mm.2.2 v0 5) (fun a26 => (if a23 = a26 then L_OB_freeScene_9 sh fu v0 v1 (v2 + 1) mm else zoS (sh v0) 0 (fun le29 => Option.bind (mm.2.2 v0 4) (fun a30 => zoR (sh a30) (fun t34 le32 => if (v2 : Int32) < 0 ∨ le32 ≤ (v2 : Int32).toNatClampNeg then none else Option.bind (mm.2.2 a30 (v2 : Int32).toNatClampNeg) (fun a35 => zoS (sh v0) 0 (fun le37 => Option.bind (mm.2.2 v0 8) (fun a38 => zoS (sh a38) 5 (fun le40 => zoN (mm.2.2 a38 3) (zoS (sh v0) 0 (fun le43 => Option.bind (mm.2.2 v0 4) (fun a44 => zoR (sh a44) (fun t48 le46 => if (v2 : Int32) < 0 ∨ le46 ≤ (v2 : Int32).toNatClampNeg then none else Option.bind (mm.2.2 a44 (v2 : Int32).toNatClampNeg) (fun a49 => L_OB_freeScene_9 sh fu v0 a49 (v2 + 1) mm))))) (fun a41 => (if a35 = a41 then L_OB_freeScene_9 sh fu v0 v1 (v2 + 1) mm else zoS (sh v0) 0 (fun le52 => Option.bind (mm.2.2 v0 4) (fun a53 => zoR (sh a53) (fun t57 le55 => if (v2 : Int32) < 0 ∨ le55 ≤ (v2 : Int32).toNatClampNeg then none else Option.bind (mm.2.2 a53 (v2 : Int32).toNatClampNeg) (fun a58 => L_OB_freeScene_9 sh fu v0 a58 (v2 + 1) mm))))))))))))))))))))))))
set_option maxHeartbeats 4000000 in
set_option maxRecDepth 100000 in
theorem lp_OB_freeScene_9 {p : Program} {l : Launch} {e : Env} {s : State} {m : MethodId} {args : Array Value} {below : List Frame} {meth : Method} {c : Code} {D : va_G} {tA : Nat → ClassId} {b n : Nat} {post : Option Value → zV → Nat → Prop} {sh : zSh} (F : zF p s m args meth c zb_OB_freeScene 3 "OrreryBox" D tA b) : ∀ (fuel : Nat) (v0 : Nat) (v1 : Nat) (v2 : Int32) (mm : zMem) (r : Nat × Nat × Int32 × zMem), L_OB_freeScene_9 sh fuel v0 v1 v2 mm = some r → (Z p l e { frames := 0, cells := 0, slots := 0, locals := 0 } s m args below meth c D b 3 (MQ below (zQ D b post) args s 0 0 (fun q => b ≤ q)) (zW tA b sh r.2.2.2) n 0 0 60 [(0, .ref (b + (r.1))), (1, .ref (b + (r.2.1))), (2, .int (r.2.2.1))] []) → Z p l e { frames := 0, cells := 0, slots := 0, locals := 0 } s m args below meth c D b 3 (MQ below (zQ D b post) args s 0 0 (fun q => b ≤ q)) (zW tA b sh mm) n 0 0 9 [(0, .ref (b + v0)), (1, .ref (b + v1)), (2, .int v2)] [] := by
  intro fuel
  induction fuel with
  | zero =>
    intro v0 v1 v2 mm r h
    cases h
  | succ fu ih =>
    intro v0 v1 v2 mm r h hx0
    rw [L_OB_freeScene_9] at h
    refine zr_pcn 9 rfl ?_
    refine zr_iload_n F zd_OB_freeScene_9 rfl ?_
    refine zr_aload_n F zd_OB_freeScene_10 rfl ?_
    obtain ⟨le10, hs9, h⟩ := zoS_s h
    obtain ⟨a11, ea11, h⟩ := zoB_s h
    refine zr_get F 0 4 zd_OB_freeScene_11 (zW_o hs9 (by decide)) rfl (by decide) zw_492 rfl (by rfl) ?_
    refine zr_tor ea11 ?_
    obtain ⟨t14, le13, hs12, h⟩ := zoR_s h
    refine zr_lenR F zd_OB_freeScene_14 hs12 ?_
    refine zr_icmp_ge F 60 zd_OB_freeScene_15 (by decide) (fun hb15 => ?_) (fun hb15 => ?_)
    ·
      rw [if_pos hb15] at h
      obtain rfl := Option.some.inj h
      refine zr_loc (L' := [(0, .ref (b + v0)), (1, .ref (b + v1)), (2, .int v2)]) ⟨rfl, rfl, rfl, trivial⟩ ?_
      exact hx0 
    ·
      rw [if_neg hb15] at h
      refine zr_aload_n F zd_OB_freeScene_18 rfl ?_
      obtain ⟨le17, hs16, h⟩ := zoS_s h
      obtain ⟨a18, ea18, h⟩ := zoB_s h
      refine zr_get F 0 4 zd_OB_freeScene_19 (zW_o hs16 (by decide)) rfl (by decide) zw_492 rfl (by rfl) ?_
      refine zr_tor ea18 ?_
      refine zr_iload_n F zd_OB_freeScene_22 rfl ?_
      refine zr_pcn 23 rfl ?_
      obtain ⟨t22, le20, hs19, h⟩ := zoR_s h
      obtain ⟨hi21, h⟩ := zoI_s h
      obtain ⟨a23, ea23, h⟩ := zoB_s h
      refine zr_aaldW F zd_OB_freeScene_23 hs19 hi21 ea23 ?_
      refine zr_aload_n F zd_OB_freeScene_24 rfl ?_
      obtain ⟨le25, hs24, h⟩ := zoS_s h
      obtain ⟨a26, ea26, h⟩ := zoB_s h
      refine zr_get F 0 5 zd_OB_freeScene_25 (zW_o hs24 (by decide)) rfl (by decide) zw_493 rfl (by rfl) ?_
      refine zr_tor ea26 ?_
      refine zr_acmp_eq F 54 zd_OB_freeScene_28 (by decide) (fun hb27 => ?_) (fun hb27 => ?_)
      ·
        rw [if_pos (show a23 = a26 from Nat.add_left_cancel hb27)] at h
        refine zr_iinc (v := (v2 + 1)) F zd_OB_freeScene_54 rfl rfl (by decide) ?_
        refine zr_goto F 9 zd_OB_freeScene_57 (by decide) ?_
        refine zr_loc (L' := [(0, .ref (b + v0)), (1, .ref (b + v1)), (2, .int (v2 + 1))]) ⟨rfl, rfl, rfl, trivial⟩ ?_
        exact ih _ _ _ _ _ h hx0
      ·
        rw [if_neg (show ¬ a23 = a26 from fun q => hb27 (by rw [q]))] at h
        refine zr_aload_n F zd_OB_freeScene_31 rfl ?_
        obtain ⟨le29, hs28, h⟩ := zoS_s h
        obtain ⟨a30, ea30, h⟩ := zoB_s h
        refine zr_get F 0 4 zd_OB_freeScene_32 (zW_o hs28 (by decide)) rfl (by decide) zw_492 rfl (by rfl) ?_
        refine zr_tor ea30 ?_
        refine zr_pcn 35 rfl ?_
        refine zr_iload_n F zd_OB_freeScene_35 rfl ?_
        obtain ⟨t34, le32, hs31, h⟩ := zoR_s h
        obtain ⟨hi33, h⟩ := zoI_s h
        obtain ⟨a35, ea35, h⟩ := zoB_s h
        refine zr_aaldW F zd_OB_freeScene_36 hs31 hi33 ea35 ?_
        refine zr_aload_n F zd_OB_freeScene_37 rfl ?_
        obtain ⟨le37, hs36, h⟩ := zoS_s h
        obtain ⟨a38, ea38, h⟩ := zoB_s h
        refine zr_get F 0 8 zd_OB_freeScene_38 (zW_o hs36 (by decide)) rfl (by decide) zw_496 rfl (by rfl) ?_
        refine zr_tor ea38 ?_
        obtain ⟨le40, hs39, h⟩ := zoS_s h
        refine zr_get F 5 3 zd_OB_freeScene_41 (zW_o hs39 (by decide)) rfl (by decide) zw_436 rfl (by rfl) ?_
        cases ea41 : (mm.2.2 a38 3) with
        | none =>
          rw [ea41] at h
          dsimp only [zoN] at h
          refine zr_ton rfl ?_
          refine zr_acmp_eqN F 54 zd_OB_freeScene_44 (by decide) ?_
          refine zr_aload_n F zd_OB_freeScene_47 rfl ?_
          obtain ⟨le43, hs42, h⟩ := zoS_s h
          obtain ⟨a44, ea44, h⟩ := zoB_s h
          refine zr_get F 0 4 zd_OB_freeScene_48 (zW_o hs42 (by decide)) rfl (by decide) zw_492 rfl (by rfl) ?_
          refine zr_tor ea44 ?_
          refine zr_pcn 51 rfl ?_
          refine zr_iload_n F zd_OB_freeScene_51 rfl ?_
          obtain ⟨t48, le46, hs45, h⟩ := zoR_s h
          obtain ⟨hi47, h⟩ := zoI_s h
          obtain ⟨a49, ea49, h⟩ := zoB_s h
          refine zr_aaldW F zd_OB_freeScene_52 hs45 hi47 ea49 ?_
          refine zr_astore_n F zd_OB_freeScene_53 (by decide) ?_
          refine zr_iinc (v := (v2 + 1)) F zd_OB_freeScene_54 rfl rfl (by decide) ?_
          refine zr_goto F 9 zd_OB_freeScene_57 (by decide) ?_
          refine zr_loc (L' := [(0, .ref (b + v0)), (1, .ref (b + a49)), (2, .int (v2 + 1))]) ⟨rfl, rfl, rfl, trivial⟩ ?_
          exact ih _ _ _ _ _ h hx0
        | some a41 =>
          rw [ea41] at h
          dsimp only [zoN] at h
          refine zr_tor rfl ?_
          refine zr_acmp_eq F 54 zd_OB_freeScene_44 (by decide) (fun hb50 => ?_) (fun hb50 => ?_)
          ·
            rw [if_pos (show a35 = a41 from Nat.add_left_cancel hb50)] at h
            refine zr_iinc (v := (v2 + 1)) F zd_OB_freeScene_54 rfl rfl (by decide) ?_
            refine zr_goto F 9 zd_OB_freeScene_57 (by decide) ?_
            refine zr_loc (L' := [(0, .ref (b + v0)), (1, .ref (b + v1)), (2, .int (v2 + 1))]) ⟨rfl, rfl, rfl, trivial⟩ ?_
            exact ih _ _ _ _ _ h hx0
          ·
            rw [if_neg (show ¬ a35 = a41 from fun q => hb50 (by rw [q]))] at h
            refine zr_pcn 47 rfl ?_
            refine zr_aload_n F zd_OB_freeScene_47 rfl ?_
            obtain ⟨le52, hs51, h⟩ := zoS_s h
            obtain ⟨a53, ea53, h⟩ := zoB_s h
            refine zr_get F 0 4 zd_OB_freeScene_48 (zW_o hs51 (by decide)) rfl (by decide) zw_492 rfl (by rfl) ?_
            refine zr_tor ea53 ?_
            refine zr_iload_n F zd_OB_freeScene_51 rfl ?_
            obtain ⟨t57, le55, hs54, h⟩ := zoR_s h
            obtain ⟨hi56, h⟩ := zoI_s h
            obtain ⟨a58, ea58, h⟩ := zoB_s h
            refine zr_aaldW F zd_OB_freeScene_52 hs54 hi56 ea58 ?_
            refine zr_astore_n F zd_OB_freeScene_53 (by decide) ?_
            refine zr_iinc (v := (v2 + 1)) F zd_OB_freeScene_54 rfl rfl (by decide) ?_
            refine zr_goto F 9 zd_OB_freeScene_57 (by decide) ?_
            refine zr_loc (L' := [(0, .ref (b + v0)), (1, .ref (b + a58)), (2, .int (v2 + 1))]) ⟨rfl, rfl, rfl, trivial⟩ ?_
            exact ih _ _ _ _ _ h hx0
def F_OB_freeScene (sh : zSh) (mm : zMem) (o : Nat) : Option (Nat × zMem) := zoS (sh o) 0 (fun le2 => Option.bind (mm.2.2 o 4) (fun a3 => zoR (sh a3) (fun t7 le5 => if (0 : Int32) < 0 ∨ le5 ≤ (0 : Int32).toNatClampNeg then none else Option.bind (mm.2.2 a3 (0 : Int32).toNatClampNeg) (fun a8 => Option.bind (L_OB_freeScene_9 sh zfuel o a8 0 mm) (fun q59 => some (q59.2.1, q59.2.2.2))))))
set_option maxHeartbeats 4000000 in
set_option maxRecDepth 100000 in
theorem k_OB_freeScene (l : Launch) (D : va_G) (tA : Nat → ClassId) (b : Nat) (sh : zSh) (n : Nat) {mm : zMem} {o : Nat} {r : (Nat × zMem)} (h : F_OB_freeScene sh mm o = some r) : zM l D tA b zy_OB_freeScene zb_OB_freeScene 3 (some (.object "OrreryBox$Scene")) 0 0 0 0 [.ref (b + o)] (zW tA b sh mm) n (zE (some (.ref (b + (r.1)))) (zW tA b sh r.2) n) := by
  unfold F_OB_freeScene at h
  refine zM_of (own := "OrreryBox") (plainFor_of_name (by decide)) rfl (Nat.le_of_ble_eq_true rfl) (fun p e s m below meth c F hr hin hH => ?_)
  refine zr_aload_n F zd_OB_freeScene_0 rfl ?_
  obtain ⟨le2, hs1, h⟩ := zoS_s h
  obtain ⟨a3, ea3, h⟩ := zoB_s h
  refine zr_get F 0 4 zd_OB_freeScene_1 (zW_o hs1 (by decide)) rfl (by decide) zw_492 rfl (by rfl) ?_
  refine zr_tor ea3 ?_
  refine zr_iconstv (v := 0) F zd_OB_freeScene_4 (by decide) ?_
  obtain ⟨t7, le5, hs4, h⟩ := zoR_s h
  obtain ⟨hi6, h⟩ := zoI_s h
  obtain ⟨a8, ea8, h⟩ := zoB_s h
  refine zr_aaldW F zd_OB_freeScene_5 hs4 hi6 ea8 ?_
  refine zr_astore_n F zd_OB_freeScene_6 (by decide) ?_
  refine zr_iconstv (v := 0) F zd_OB_freeScene_7 (by decide) ?_
  refine zr_istore_n F zd_OB_freeScene_8 (by decide) ?_
  obtain ⟨q59, eq59, h⟩ := zoB_s h
  refine zr_loc (L' := [(0, .ref (b + o)), (1, .ref (b + a8)), (2, .int 0)]) ⟨rfl, rfl, rfl, trivial⟩ ?_
  refine lp_OB_freeScene_9 F _ _ _ _ _ _ eq59 ?_
  ·
    refine zr_aload_n F zd_OB_freeScene_60 rfl ?_
    refine zr_pcn 61 rfl ?_
    obtain rfl := Option.some.inj h
    exact zr_aret F hr (Or.inl ⟨_, rfl⟩) (Or.inr ⟨_, rfl⟩) zd_OB_freeScene_61 (Nat.le_of_ble_eq_true rfl) (Nat.le_of_ble_eq_true rfl) ⟨rfl, rfl, rfl⟩
def F_OB_hasPixel (sh : zSh) (mm : zMem) (o : Nat) (x0_ : Int32) (x1_ : Int32) : Option (Int32 × zMem) := zoS (sh o) 0 (fun le2 => (if (sp_OB_within x0_ 0 ((mm.1 o 0) - 1)) = 0 then some (0, mm) else zoS (sh o) 0 (fun le6 => (if (sp_OB_within x1_ 0 ((mm.1 o 1) - 1)) = 0 then some (0, mm) else some (1, mm)))))
set_option maxHeartbeats 4000000 in
set_option maxRecDepth 100000 in
theorem k_OB_hasPixel (l : Launch) (D : va_G) (tA : Nat → ClassId) (b : Nat) (sh : zSh) (n : Nat) {mm : zMem} {o : Nat} {x0_ : Int32} {x1_ : Int32} {r : (Int32 × zMem)} (h : F_OB_hasPixel sh mm o x0_ x1_ = some r) : zM l D tA b zy_OB_hasPixel zb_OB_hasPixel 3 (some .boolean) 1 22 0 0 [.ref (b + o), .int x0_, .int x1_] (zW tA b sh mm) n (zE (some (.int (r.1))) (zW tA b sh r.2) n) := by
  unfold F_OB_hasPixel at h
  refine zM_of (own := "OrreryBox") (plainFor_of_name (by decide)) rfl (Nat.le_of_ble_eq_true rfl) (fun p e s m below meth c F hr hin hH => ?_)
  refine zr_iload_n F zd_OB_hasPixel_0 rfl ?_
  refine zr_iconstv (v := 0) F zd_OB_hasPixel_1 (by decide) ?_
  refine zr_aload_n F zd_OB_hasPixel_2 rfl ?_
  obtain ⟨le2, hs1, h⟩ := zoS_s h
  refine zr_get F 0 0 zd_OB_hasPixel_3 (zW_o hs1 (by decide)) rfl (by decide) zw_488 rfl (by rfl) ?_
  refine zr_iconstv (v := 1) F zd_OB_hasPixel_6 (by decide) ?_
  refine zr_isub F zd_OB_hasPixel_7 ?_
  refine zr_callS1 F (c_OB_within l D tA b _ _ x0_ 0 ((mm.1 o 0) - 1)) zd_OB_hasPixel_8 zs_OB_97 zq_OB_within rfl rfl ⟨(Nat.le_of_ble_eq_true rfl), (Nat.le_of_ble_eq_true rfl)⟩ (Nat.le_of_ble_eq_true rfl) ⟨(Nat.le_of_ble_eq_true rfl), (Nat.le_of_ble_eq_true rfl)⟩ ?_
  refine zr_pcn 11 rfl ?_
  refine zr_if_eq F 32 zd_OB_hasPixel_11 (by decide) (fun hb4 => ?_) (fun hb4 => ?_)
  ·
    rw [if_pos hb4] at h
    refine zr_iconstv (v := 0) F zd_OB_hasPixel_32 (by decide) ?_
    obtain rfl := Option.some.inj h
    exact zr_zret F hr rfl zd_OB_hasPixel_33 (Nat.le_of_ble_eq_true rfl) (Nat.le_of_ble_eq_true rfl) ⟨rfl, rfl, rfl⟩
  ·
    rw [if_neg hb4] at h
    refine zr_iload_n F zd_OB_hasPixel_14 rfl ?_
    refine zr_iconstv (v := 0) F zd_OB_hasPixel_15 (by decide) ?_
    refine zr_aload_n F zd_OB_hasPixel_16 rfl ?_
    obtain ⟨le6, hs5, h⟩ := zoS_s h
    refine zr_get F 0 1 zd_OB_hasPixel_17 (zW_o hs5 (by decide)) rfl (by decide) zw_489 rfl (by rfl) ?_
    refine zr_iconstv (v := 1) F zd_OB_hasPixel_20 (by decide) ?_
    refine zr_pcn 21 rfl ?_
    refine zr_isub F zd_OB_hasPixel_21 ?_
    refine zr_callS1 F (c_OB_within l D tA b _ _ x1_ 0 ((mm.1 o 1) - 1)) zd_OB_hasPixel_22 zs_OB_97 zq_OB_within rfl rfl ⟨(Nat.le_of_ble_eq_true rfl), (Nat.le_of_ble_eq_true rfl)⟩ (Nat.le_of_ble_eq_true rfl) ⟨(Nat.le_of_ble_eq_true rfl), (Nat.le_of_ble_eq_true rfl)⟩ ?_
    refine zr_if_eq F 32 zd_OB_hasPixel_25 (by decide) (fun hb8 => ?_) (fun hb8 => ?_)
    ·
      rw [if_pos hb8] at h
      refine zr_iconstv (v := 0) F zd_OB_hasPixel_32 (by decide) ?_
      obtain rfl := Option.some.inj h
      exact zr_zret F hr rfl zd_OB_hasPixel_33 (Nat.le_of_ble_eq_true rfl) (Nat.le_of_ble_eq_true rfl) ⟨rfl, rfl, rfl⟩
    ·
      rw [if_neg hb8] at h
      refine zr_iconstv (v := 1) F zd_OB_hasPixel_28 (by decide) ?_
      refine zr_goto F 33 zd_OB_hasPixel_29 (by decide) ?_
      obtain rfl := Option.some.inj h
      exact zr_zret F hr rfl zd_OB_hasPixel_33 (Nat.le_of_ble_eq_true rfl) (Nat.le_of_ble_eq_true rfl) ⟨rfl, rfl, rfl⟩
def F_OB_nearest (sh : zSh) (mm : zMem) (x0_ : Int32) (x1_ : Int32) (x2_ : Int32) : Option (Int32 × zMem) := some ((zx_max x1_ (zx_min x2_ x0_)), mm)
set_option maxHeartbeats 4000000 in
set_option maxRecDepth 100000 in
theorem k_OB_nearest (l : Launch) (D : va_G) (tA : Nat → ClassId) (b : Nat) (sh : zSh) (n : Nat) {mm : zMem} {x0_ : Int32} {x1_ : Int32} {x2_ : Int32} {r : (Int32 × zMem)} (h : F_OB_nearest sh mm x0_ x1_ x2_ = some r) : zM l D tA b zy_OB_nearest zb_OB_nearest 3 (some .int) 1 21 0 0 [.int x0_, .int x1_, .int x2_] (zW tA b sh mm) n (zE (some (.int (r.1))) (zW tA b sh r.2) n) := by
  unfold F_OB_nearest at h
  refine zM_of (own := "OrreryBox") (plainFor_of_name (by decide)) rfl (Nat.le_of_ble_eq_true rfl) (fun p e s m below meth c F hr hin hH => ?_)
  refine zr_iload_n F zd_OB_nearest_0 rfl ?_
  refine zr_iload_n F zd_OB_nearest_1 rfl ?_
  refine zr_iload_n F zd_OB_nearest_2 rfl ?_
  refine zr_callS1 F (c_JMath_min l D tA b _ _ x2_ x0_) zd_OB_nearest_3 zs_OB_233 zq_JMath_min rfl rfl ⟨(Nat.le_of_ble_eq_true rfl), (Nat.le_of_ble_eq_true rfl)⟩ (Nat.le_of_ble_eq_true rfl) ⟨(Nat.le_of_ble_eq_true rfl), (Nat.le_of_ble_eq_true rfl)⟩ ?_
  refine zr_callS1 F (c_JMath_max l D tA b _ _ x1_ (zx_min x2_ x0_)) zd_OB_nearest_6 zs_OB_239 zq_JMath_max rfl rfl ⟨(Nat.le_of_ble_eq_true rfl), (Nat.le_of_ble_eq_true rfl)⟩ (Nat.le_of_ble_eq_true rfl) ⟨(Nat.le_of_ble_eq_true rfl), (Nat.le_of_ble_eq_true rfl)⟩ ?_
  obtain rfl := Option.some.inj h
  exact zr_iret F hr zd_OB_nearest_9 (Nat.le_of_ble_eq_true rfl) (Nat.le_of_ble_eq_true rfl) ⟨rfl, rfl, rfl⟩
def F_MD_thrown (sh : zSh) (mm : zMem) (o : Nat) : Option (Int32 × zMem) := zoS (sh o) 1 (fun le2 => some ((mm.1 o 11), mm))
set_option maxHeartbeats 4000000 in
set_option maxRecDepth 100000 in
theorem k_MD_thrown (l : Launch) (D : va_G) (tA : Nat → ClassId) (b : Nat) (sh : zSh) (n : Nat) {mm : zMem} {o : Nat} {r : (Int32 × zMem)} (h : F_MD_thrown sh mm o = some r) : zM l D tA b zy_MD_thrown zb_MD_thrown 1 (some .int) 0 0 0 0 [.ref (b + o)] (zW tA b sh mm) n (zE (some (.int (r.1))) (zW tA b sh r.2) n) := by
  unfold F_MD_thrown at h
  refine zM_of (own := "OrreryBoxModel") (plainFor_of_name (by decide)) rfl (Nat.le_of_ble_eq_true rfl) (fun p e s m below meth c F hr hin hH => ?_)
  refine zr_aload_n F zd_MD_thrown_0 rfl ?_
  obtain ⟨le2, hs1, h⟩ := zoS_s h
  refine zr_get F 1 11 zd_MD_thrown_1 (zW_o hs1 (by decide)) rfl (by decide) zw_1691 rfl (by rfl) ?_
  obtain rfl := Option.some.inj h
  exact zr_iret F hr zd_MD_thrown_4 (Nat.le_of_ble_eq_true rfl) (Nat.le_of_ble_eq_true rfl) ⟨rfl, rfl, rfl⟩
theorem zf_I_1_3 (b : Nat) (m : zMem) (k : Nat) (v : Int32) : (zfl b 1 m k).set 3 (.int v) = zfl b 1 (mI m k 3 v) k := by simp [zfl, mI, upd, vp_updL]
def L_MD_feedOne_3 (sh : zSh) (fuel : Nat) (v0 : Nat) (v1 : Int32) (v2 : Int32) (mm : zMem) : Option (Nat × Int32 × Int32 × zMem) := match fuel with
  | 0 => none
  | fu + 1 => (if v2 < 0 then some (v0, v1, v2, mm) else zoS (sh v0) 1 (fun le3 => Option.bind (mm.2.2 v0 2) (fun a4 => zoS (sh v0) 1 (fun le6 => zoL (((v1 >>> (v2 &&& 31)) : Int32).toInt8.toInt32) (fun x7 => zoL (mm.1 v0 3) (fun i8 => zoS (sh a4) 101 (fun le10 => if (i8 : Int32) < 0 ∨ le10 ≤ (i8 : Int32).toNatClampNeg then none else zoL (mI mm a4 (i8 : Int32).toNatClampNeg (vp_nar .byte x7)) (fun mm12 => zoS (sh v0) 1 (fun le14 => zoL ((mm12.1 v0 3) + 1) (fun x15 => zoS (sh v0) 1 (fun le17 => zoL (mI mm12 v0 3 x15) (fun mm18 => L_MD_feedOne_3 sh fu v0 v1 (v2 + (-8)) mm18))))))))))))
set_option maxHeartbeats 4000000 in
set_option maxRecDepth 100000 in
theorem lp_MD_feedOne_3 {p : Program} {l : Launch} {e : Env} {s : State} {m : MethodId} {args : Array Value} {below : List Frame} {meth : Method} {c : Code} {D : va_G} {tA : Nat → ClassId} {b n : Nat} {post : Option Value → zV → Nat → Prop} {sh : zSh} (F : zF p s m args meth c zb_MD_feedOne 3 "OrreryBoxModel" D tA b) : ∀ (fuel : Nat) (v0 : Nat) (v1 : Int32) (v2 : Int32) (mm : zMem) (r : Nat × Int32 × Int32 × zMem), L_MD_feedOne_3 sh fuel v0 v1 v2 mm = some r → (Z p l e { frames := 0, cells := 0, slots := 0, locals := 0 } s m args below meth c D b 3 (MQ below (zQ D b post) args s 0 0 (fun q => b ≤ q)) (zW tA b sh r.2.2.2) n 0 0 36 [(0, .ref (b + (r.1))), (1, .int (r.2.1)), (2, .int (r.2.2.1))] []) → Z p l e { frames := 0, cells := 0, slots := 0, locals := 0 } s m args below meth c D b 3 (MQ below (zQ D b post) args s 0 0 (fun q => b ≤ q)) (zW tA b sh mm) n 0 0 3 [(0, .ref (b + v0)), (1, .int v1), (2, .int v2)] [] := by
  intro fuel
  induction fuel with
  | zero =>
    intro v0 v1 v2 mm r h
    cases h
  | succ fu ih =>
    intro v0 v1 v2 mm r h hx0
    rw [L_MD_feedOne_3] at h
    refine zr_iload_n F zd_MD_feedOne_3 rfl ?_
    refine zr_if_lt F 36 zd_MD_feedOne_4 (by decide) (fun hb1 => ?_) (fun hb1 => ?_)
    ·
      rw [if_pos hb1] at h
      obtain rfl := Option.some.inj h
      refine zr_loc (L' := [(0, .ref (b + v0)), (1, .int v1), (2, .int v2)]) ⟨rfl, rfl, rfl, trivial⟩ ?_
      exact hx0 
    ·
      rw [if_neg hb1] at h
      refine zr_aload_n F zd_MD_feedOne_7 rfl ?_
      obtain ⟨le3, hs2, h⟩ := zoS_s h
      obtain ⟨a4, ea4, h⟩ := zoB_s h
      refine zr_get F 1 2 zd_MD_feedOne_8 (zW_o hs2 (by decide)) rfl (by decide) zw_1682 rfl (by rfl) ?_
      refine zr_tor ea4 ?_
      refine zr_aload_n F zd_MD_feedOne_11 rfl ?_
      refine zr_pcn 12 rfl ?_
      obtain ⟨le6, hs5, h⟩ := zoS_s h
      refine zr_get F 1 3 zd_MD_feedOne_12 (zW_o hs5 (by decide)) rfl (by decide) zw_1683 rfl (by rfl) ?_
      refine zr_iload_n F zd_MD_feedOne_15 rfl ?_
      refine zr_iload_n F zd_MD_feedOne_16 rfl ?_
      refine zr_ishr F zd_MD_feedOne_17 ?_
      refine zr_i2b F zd_MD_feedOne_18 ?_
      obtain ⟨x7, ex7, h⟩ := zoL_s h
      rw [← ex7]
      obtain ⟨i8, ei8, h⟩ := zoL_s h
      rw [← ei8]
      obtain ⟨le10, hs9, h⟩ := zoS_s h
      obtain ⟨hi11, h⟩ := zoI_s h
      refine zr_bast F zd_MD_feedOne_19 (zW_a1 hs9) hi11 ?_
      obtain ⟨mm12, emm12, h⟩ := zoL_s h
      refine zr_norm (zW tA b sh mm12) _ (by rw [emm12]; exact zW_s1 hs9) rfl ?_
      refine zr_aload_n F zd_MD_feedOne_20 rfl ?_
      refine zr_dup F zd_MD_feedOne_21 rfl ?_
      refine zr_pcn 22 rfl ?_
      obtain ⟨le14, hs13, h⟩ := zoS_s h
      refine zr_get F 1 3 zd_MD_feedOne_22 (zW_o hs13 (by decide)) rfl (by decide) zw_1683 rfl (by rfl) ?_
      refine zr_iconstv (v := 1) F zd_MD_feedOne_25 (by decide) ?_
      refine zr_iadd F zd_MD_feedOne_26 ?_
      obtain ⟨x15, ex15, h⟩ := zoL_s h
      rw [← ex15]
      obtain ⟨le17, hs16, h⟩ := zoS_s h
      refine zr_put F 1 3 zd_MD_feedOne_27 (zW_o hs16 (by decide)) rfl (by decide) zw_1683 rfl rfl rfl rfl (by exact (Nat.le_of_ble_eq_true rfl)) ?_
      obtain ⟨mm18, emm18, h⟩ := zoL_s h
      refine zr_norm (zW tA b sh mm18) _ (by rw [emm18]; exact zW_pI (v := x15) hs16 (by decide) (zf_I_1_3 b _ _ _)) rfl ?_
      refine zr_iinc (v := (v2 + (-8))) F zd_MD_feedOne_30 rfl rfl (by decide) ?_
      refine zr_goto F 3 zd_MD_feedOne_33 (by decide) ?_
      refine zr_loc (L' := [(0, .ref (b + v0)), (1, .int v1), (2, .int (v2 + (-8)))]) ⟨rfl, rfl, rfl, trivial⟩ ?_
      exact ih _ _ _ _ _ h hx0
def F_MD_feedOne (sh : zSh) (mm : zMem) (o : Nat) (x0_ : Int32) : Option zMem := Option.bind (L_MD_feedOne_3 sh zfuel o x0_ 24 mm) (fun q19 => some (q19.2.2.2))
set_option maxHeartbeats 4000000 in
set_option maxRecDepth 100000 in
theorem k_MD_feedOne (l : Launch) (D : va_G) (tA : Nat → ClassId) (b : Nat) (sh : zSh) (n : Nat) {mm : zMem} {o : Nat} {x0_ : Int32} {r : zMem} (h : F_MD_feedOne sh mm o x0_ = some r) : zM l D tA b zy_MD_feedOne zb_MD_feedOne 3 none 0 0 0 0 [.ref (b + o), .int x0_] (zW tA b sh mm) n (zE none (zW tA b sh r) n) := by
  unfold F_MD_feedOne at h
  refine zM_of (own := "OrreryBoxModel") (plainFor_of_name (by decide)) rfl (Nat.le_of_ble_eq_true rfl) (fun p e s m below meth c F hr hin hH => ?_)
  refine zr_bipushv (v := 24) F zd_MD_feedOne_0 (by decide) ?_
  refine zr_istore_n F zd_MD_feedOne_2 (by decide) ?_
  obtain ⟨q19, eq19, h⟩ := zoB_s h
  refine zr_loc (L' := [(0, .ref (b + o)), (1, .int x0_), (2, .int 24)]) ⟨rfl, rfl, rfl, trivial⟩ ?_
  refine lp_MD_feedOne_3 F _ _ _ _ _ _ eq19 ?_
  ·
    obtain rfl := Option.some.inj h
    exact zr_vret F hr zd_MD_feedOne_36 (Nat.le_of_ble_eq_true rfl) (Nat.le_of_ble_eq_true rfl) ⟨rfl, rfl, rfl⟩
theorem zf_I_1_11 (b : Nat) (m : zMem) (k : Nat) (v : Int32) : (zfl b 1 m k).set 11 (.int v) = zfl b 1 (mI m k 11 v) k := by simp [zfl, mI, upd, vp_updL]
def F_MD_end (sh : zSh) (mm : zMem) (o : Nat) (x0_ : Int32) : Option (Int32 × zMem) := zoS (sh o) 1 (fun le2 => zoL (mI mm o 11 0) (fun mm3 => (if x0_ < 0 then some (0, mm3) else zoS (sh o) 1 (fun le6 => (if x0_ ≤ (mm3.1 o 3) then zoS (sh o) 1 (fun le9 => zoL (mI mm3 o 3 x0_) (fun mm10 => some (1, mm10))) else some (0, mm3))))))
set_option maxHeartbeats 4000000 in
set_option maxRecDepth 100000 in
theorem k_MD_end (l : Launch) (D : va_G) (tA : Nat → ClassId) (b : Nat) (sh : zSh) (n : Nat) {mm : zMem} {o : Nat} {x0_ : Int32} {r : (Int32 × zMem)} (h : F_MD_end sh mm o x0_ = some r) : zM l D tA b zy_MD_end zb_MD_end 2 (some .boolean) 0 0 0 0 [.ref (b + o), .int x0_] (zW tA b sh mm) n (zE (some (.int (r.1))) (zW tA b sh r.2) n) := by
  unfold F_MD_end at h
  refine zM_of (own := "OrreryBoxModel") (plainFor_of_name (by decide)) rfl (Nat.le_of_ble_eq_true rfl) (fun p e s m below meth c F hr hin hH => ?_)
  refine zr_aload_n F zd_MD_end_0 rfl ?_
  refine zr_iconstv (v := 0) F zd_MD_end_1 (by decide) ?_
  obtain ⟨le2, hs1, h⟩ := zoS_s h
  refine zr_put F 1 11 zd_MD_end_2 (zW_o hs1 (by decide)) rfl (by decide) zw_1691 rfl rfl rfl rfl (by exact (Nat.le_of_ble_eq_true rfl)) ?_
  obtain ⟨mm3, emm3, h⟩ := zoL_s h
  refine zr_norm (zW tA b sh mm3) _ (by rw [emm3]; exact zW_pI (v := 0) hs1 (by decide) (zf_I_1_11 b _ _ _)) rfl ?_
  refine zr_iload_n F zd_MD_end_5 rfl ?_
  refine zr_if_lt F 17 zd_MD_end_6 (by decide) (fun hb4 => ?_) (fun hb4 => ?_)
  ·
    rw [if_pos hb4] at h
    refine zr_iconstv (v := 0) F zd_MD_end_17 (by decide) ?_
    obtain rfl := Option.some.inj h
    exact zr_zret F hr rfl zd_MD_end_18 (Nat.le_of_ble_eq_true rfl) (Nat.le_of_ble_eq_true rfl) ⟨rfl, rfl, rfl⟩
  ·
    rw [if_neg hb4] at h
    refine zr_pcn 9 rfl ?_
    refine zr_iload_n F zd_MD_end_9 rfl ?_
    refine zr_aload_n F zd_MD_end_10 rfl ?_
    obtain ⟨le6, hs5, h⟩ := zoS_s h
    refine zr_get F 1 3 zd_MD_end_11 (zW_o hs5 (by decide)) rfl (by decide) zw_1683 rfl (by rfl) ?_
    refine zr_icmp_le F 19 zd_MD_end_14 (by decide) (fun hb7 => ?_) (fun hb7 => ?_)
    ·
      rw [if_pos hb7] at h
      refine zr_aload_n F zd_MD_end_19 rfl ?_
      refine zr_iload_n F zd_MD_end_20 rfl ?_
      obtain ⟨le9, hs8, h⟩ := zoS_s h
      refine zr_put F 1 3 zd_MD_end_21 (zW_o hs8 (by decide)) rfl (by decide) zw_1683 rfl rfl rfl rfl (by exact (Nat.le_of_ble_eq_true rfl)) ?_
      obtain ⟨mm10, emm10, h⟩ := zoL_s h
      refine zr_norm (zW tA b sh mm10) _ (by rw [emm10]; exact zW_pI (v := x0_) hs8 (by decide) (zf_I_1_3 b _ _ _)) rfl ?_
      refine zr_iconstv (v := 1) F zd_MD_end_24 (by decide) ?_
      refine zr_pcn 25 rfl ?_
      obtain rfl := Option.some.inj h
      exact zr_zret F hr rfl zd_MD_end_25 (Nat.le_of_ble_eq_true rfl) (Nat.le_of_ble_eq_true rfl) ⟨rfl, rfl, rfl⟩
    ·
      rw [if_neg hb7] at h
      refine zr_iconstv (v := 0) F zd_MD_end_17 (by decide) ?_
      obtain rfl := Option.some.inj h
      exact zr_zret F hr rfl zd_MD_end_18 (Nat.le_of_ble_eq_true rfl) (Nat.le_of_ble_eq_true rfl) ⟨rfl, rfl, rfl⟩
def F_MD_error (sh : zSh) (mm : zMem) (o : Nat) (x0_ : Int32) : Option (Int32 × zMem) := zoS (sh o) 1 (fun le2 => zoL (mI mm o 11 0) (fun mm3 => (if x0_ = 0 then zoS (sh o) 1 (fun le9 => some ((mm3.1 o 12), mm3)) else (if x0_ = 1 then zoS (sh o) 1 (fun le7 => some ((mm3.1 o 13), mm3)) else some (0, mm3)))))
set_option maxHeartbeats 4000000 in
set_option maxRecDepth 100000 in
theorem k_MD_error (l : Launch) (D : va_G) (tA : Nat → ClassId) (b : Nat) (sh : zSh) (n : Nat) {mm : zMem} {o : Nat} {x0_ : Int32} {r : (Int32 × zMem)} (h : F_MD_error sh mm o x0_ = some r) : zM l D tA b zy_MD_error zb_MD_error 2 (some .int) 0 0 0 0 [.ref (b + o), .int x0_] (zW tA b sh mm) n (zE (some (.int (r.1))) (zW tA b sh r.2) n) := by
  unfold F_MD_error at h
  refine zM_of (own := "OrreryBoxModel") (plainFor_of_name (by decide)) rfl (Nat.le_of_ble_eq_true rfl) (fun p e s m below meth c F hr hin hH => ?_)
  refine zr_aload_n F zd_MD_error_0 rfl ?_
  refine zr_iconstv (v := 0) F zd_MD_error_1 (by decide) ?_
  obtain ⟨le2, hs1, h⟩ := zoS_s h
  refine zr_put F 1 11 zd_MD_error_2 (zW_o hs1 (by decide)) rfl (by decide) zw_1691 rfl rfl rfl rfl (by exact (Nat.le_of_ble_eq_true rfl)) ?_
  obtain ⟨mm3, emm3, h⟩ := zoL_s h
  refine zr_norm (zW tA b sh mm3) _ (by rw [emm3]; exact zW_pI (v := 0) hs1 (by decide) (zf_I_1_11 b _ _ _)) rfl ?_
  refine zr_iload_n F zd_MD_error_5 rfl ?_
  refine zr_if_ne F 16 zd_MD_error_6 (by decide) (fun hb4 => ?_) (fun hb4 => ?_)
  ·
    rw [if_neg hb4] at h
    refine zr_iload_n F zd_MD_error_16 rfl ?_
    refine zr_iconstv (v := 1) F zd_MD_error_17 (by decide) ?_
    refine zr_pcn 18 rfl ?_
    refine zr_icmp_ne F 28 zd_MD_error_18 (by decide) (fun hb5 => ?_) (fun hb5 => ?_)
    ·
      rw [if_neg hb5] at h
      refine zr_iconstv (v := 0) F zd_MD_error_28 (by decide) ?_
      obtain rfl := Option.some.inj h
      exact zr_iret F hr zd_MD_error_29 (Nat.le_of_ble_eq_true rfl) (Nat.le_of_ble_eq_true rfl) ⟨rfl, rfl, rfl⟩
    ·
      rw [if_pos hb5] at h
      refine zr_aload_n F zd_MD_error_21 rfl ?_
      obtain ⟨le7, hs6, h⟩ := zoS_s h
      refine zr_get F 1 13 zd_MD_error_22 (zW_o hs6 (by decide)) rfl (by decide) zw_1693 rfl (by rfl) ?_
      refine zr_goto F 29 zd_MD_error_25 (by decide) ?_
      obtain rfl := Option.some.inj h
      exact zr_iret F hr zd_MD_error_29 (Nat.le_of_ble_eq_true rfl) (Nat.le_of_ble_eq_true rfl) ⟨rfl, rfl, rfl⟩
  ·
    rw [if_pos hb4] at h
    refine zr_aload_n F zd_MD_error_9 rfl ?_
    refine zr_pcn 10 rfl ?_
    obtain ⟨le9, hs8, h⟩ := zoS_s h
    refine zr_get F 1 12 zd_MD_error_10 (zW_o hs8 (by decide)) rfl (by decide) zw_1692 rfl (by rfl) ?_
    refine zr_goto F 29 zd_MD_error_13 (by decide) ?_
    obtain rfl := Option.some.inj h
    exact zr_iret F hr zd_MD_error_29 (Nat.le_of_ble_eq_true rfl) (Nat.le_of_ble_eq_true rfl) ⟨rfl, rfl, rfl⟩
def F_MD_count (sh : zSh) (mm : zMem) (o : Nat) (x0_ : Int32) : Option (Int32 × zMem) := zoS (sh o) 1 (fun le2 => zoL (mI mm o 11 0) (fun mm3 => (if x0_ = 0 then zoS (sh o) 1 (fun le6 => Option.bind (mm3.2.2 o 4) (fun a7 => zoS (sh a7) 15 (fun le9 => some ((mm3.1 a7 0), mm3)))) else (if x0_ = 1 then zoS (sh o) 1 (fun le11 => Option.bind (mm3.2.2 o 4) (fun a12 => zoS (sh a12) 15 (fun le14 => some ((mm3.1 a12 1), mm3)))) else (if x0_ = 2 then zoS (sh o) 1 (fun le16 => Option.bind (mm3.2.2 o 4) (fun a17 => zoS (sh a17) 15 (fun le19 => some ((mm3.1 a17 2), mm3)))) else (if x0_ = 3 then zoS (sh o) 1 (fun le21 => Option.bind (mm3.2.2 o 4) (fun a22 => zoS (sh a22) 15 (fun le24 => some ((mm3.1 a22 3), mm3)))) else (if x0_ = 4 then zoS (sh o) 1 (fun le26 => Option.bind (mm3.2.2 o 4) (fun a27 => zoS (sh a27) 15 (fun le29 => some ((mm3.1 a27 4), mm3)))) else (if x0_ = 5 then zoS (sh o) 1 (fun le31 => some ((mm3.1 o 10), mm3)) else some ((-1), mm3)))))))))
set_option maxHeartbeats 4000000 in
set_option maxRecDepth 100000 in
theorem k_MD_count (l : Launch) (D : va_G) (tA : Nat → ClassId) (b : Nat) (sh : zSh) (n : Nat) {mm : zMem} {o : Nat} {x0_ : Int32} {r : (Int32 × zMem)} (h : F_MD_count sh mm o x0_ = some r) : zM l D tA b zy_MD_count zb_MD_count 2 (some .int) 0 0 0 0 [.ref (b + o), .int x0_] (zW tA b sh mm) n (zE (some (.int (r.1))) (zW tA b sh r.2) n) := by
  unfold F_MD_count at h
  refine zM_of (own := "OrreryBoxModel") (plainFor_of_name (by decide)) rfl (Nat.le_of_ble_eq_true rfl) (fun p e s m below meth c F hr hin hH => ?_)
  refine zr_aload_n F zd_MD_count_0 rfl ?_
  refine zr_iconstv (v := 0) F zd_MD_count_1 (by decide) ?_
  obtain ⟨le2, hs1, h⟩ := zoS_s h
  refine zr_put F 1 11 zd_MD_count_2 (zW_o hs1 (by decide)) rfl (by decide) zw_1691 rfl rfl rfl rfl (by exact (Nat.le_of_ble_eq_true rfl)) ?_
  obtain ⟨mm3, emm3, h⟩ := zoL_s h
  refine zr_norm (zW tA b sh mm3) _ (by rw [emm3]; exact zW_pI (v := 0) hs1 (by decide) (zf_I_1_11 b _ _ _)) rfl ?_
  refine zr_iload_n F zd_MD_count_5 rfl ?_
  by_cases hb4_0 : x0_ = 0
  ·
    rw [if_pos hb4_0] at h
    refine zr_tableIn F 44 zd_MD_count_6 (by rw [hb4_0]; decide) (by rw [hb4_0]; decide) (by rw [hb4_0]; rfl) (by decide) ?_
    refine zr_aload_n F zd_MD_count_44 rfl ?_
    obtain ⟨le6, hs5, h⟩ := zoS_s h
    obtain ⟨a7, ea7, h⟩ := zoB_s h
    refine zr_get F 1 4 zd_MD_count_45 (zW_o hs5 (by decide)) rfl (by decide) zw_1684 rfl (by rfl) ?_
    refine zr_tor ea7 ?_
    refine zr_pcn 48 rfl ?_
    obtain ⟨le9, hs8, h⟩ := zoS_s h
    refine zr_get F 15 0 zd_MD_count_48 (zW_o hs8 (by decide)) rfl (by decide) zw_1316 rfl (by rfl) ?_
    obtain rfl := Option.some.inj h
    exact zr_iret F hr zd_MD_count_51 (Nat.le_of_ble_eq_true rfl) (Nat.le_of_ble_eq_true rfl) ⟨rfl, rfl, rfl⟩
  ·
    rw [if_neg hb4_0] at h
    by_cases hb4_1 : x0_ = 1
    ·
      rw [if_pos hb4_1] at h
      refine zr_tableIn F 52 zd_MD_count_6 (by rw [hb4_1]; decide) (by rw [hb4_1]; decide) (by rw [hb4_1]; rfl) (by decide) ?_
      refine zr_aload_n F zd_MD_count_52 rfl ?_
      obtain ⟨le11, hs10, h⟩ := zoS_s h
      obtain ⟨a12, ea12, h⟩ := zoB_s h
      refine zr_get F 1 4 zd_MD_count_53 (zW_o hs10 (by decide)) rfl (by decide) zw_1684 rfl (by rfl) ?_
      refine zr_tor ea12 ?_
      obtain ⟨le14, hs13, h⟩ := zoS_s h
      refine zr_get F 15 1 zd_MD_count_56 (zW_o hs13 (by decide)) rfl (by decide) zw_1319 rfl (by rfl) ?_
      obtain rfl := Option.some.inj h
      exact zr_iret F hr zd_MD_count_59 (Nat.le_of_ble_eq_true rfl) (Nat.le_of_ble_eq_true rfl) ⟨rfl, rfl, rfl⟩
    ·
      rw [if_neg hb4_1] at h
      by_cases hb4_2 : x0_ = 2
      ·
        rw [if_pos hb4_2] at h
        refine zr_tableIn F 60 zd_MD_count_6 (by rw [hb4_2]; decide) (by rw [hb4_2]; decide) (by rw [hb4_2]; rfl) (by decide) ?_
        refine zr_aload_n F zd_MD_count_60 rfl ?_
        obtain ⟨le16, hs15, h⟩ := zoS_s h
        obtain ⟨a17, ea17, h⟩ := zoB_s h
        refine zr_get F 1 4 zd_MD_count_61 (zW_o hs15 (by decide)) rfl (by decide) zw_1684 rfl (by rfl) ?_
        refine zr_tor ea17 ?_
        refine zr_pcn 64 rfl ?_
        obtain ⟨le19, hs18, h⟩ := zoS_s h
        refine zr_get F 15 2 zd_MD_count_64 (zW_o hs18 (by decide)) rfl (by decide) zw_1322 rfl (by rfl) ?_
        obtain rfl := Option.some.inj h
        exact zr_iret F hr zd_MD_count_67 (Nat.le_of_ble_eq_true rfl) (Nat.le_of_ble_eq_true rfl) ⟨rfl, rfl, rfl⟩
      ·
        rw [if_neg hb4_2] at h
        by_cases hb4_3 : x0_ = 3
        ·
          rw [if_pos hb4_3] at h
          refine zr_tableIn F 68 zd_MD_count_6 (by rw [hb4_3]; decide) (by rw [hb4_3]; decide) (by rw [hb4_3]; rfl) (by decide) ?_
          refine zr_aload_n F zd_MD_count_68 rfl ?_
          obtain ⟨le21, hs20, h⟩ := zoS_s h
          obtain ⟨a22, ea22, h⟩ := zoB_s h
          refine zr_get F 1 4 zd_MD_count_69 (zW_o hs20 (by decide)) rfl (by decide) zw_1684 rfl (by rfl) ?_
          refine zr_tor ea22 ?_
          obtain ⟨le24, hs23, h⟩ := zoS_s h
          refine zr_get F 15 3 zd_MD_count_72 (zW_o hs23 (by decide)) rfl (by decide) zw_1325 rfl (by rfl) ?_
          obtain rfl := Option.some.inj h
          exact zr_iret F hr zd_MD_count_75 (Nat.le_of_ble_eq_true rfl) (Nat.le_of_ble_eq_true rfl) ⟨rfl, rfl, rfl⟩
        ·
          rw [if_neg hb4_3] at h
          by_cases hb4_4 : x0_ = 4
          ·
            rw [if_pos hb4_4] at h
            refine zr_tableIn F 76 zd_MD_count_6 (by rw [hb4_4]; decide) (by rw [hb4_4]; decide) (by rw [hb4_4]; rfl) (by decide) ?_
            refine zr_aload_n F zd_MD_count_76 rfl ?_
            obtain ⟨le26, hs25, h⟩ := zoS_s h
            obtain ⟨a27, ea27, h⟩ := zoB_s h
            refine zr_get F 1 4 zd_MD_count_77 (zW_o hs25 (by decide)) rfl (by decide) zw_1684 rfl (by rfl) ?_
            refine zr_tor ea27 ?_
            refine zr_pcn 80 rfl ?_
            obtain ⟨le29, hs28, h⟩ := zoS_s h
            refine zr_get F 15 4 zd_MD_count_80 (zW_o hs28 (by decide)) rfl (by decide) zw_1329 rfl (by rfl) ?_
            obtain rfl := Option.some.inj h
            exact zr_iret F hr zd_MD_count_83 (Nat.le_of_ble_eq_true rfl) (Nat.le_of_ble_eq_true rfl) ⟨rfl, rfl, rfl⟩
          ·
            rw [if_neg hb4_4] at h
            by_cases hb4_5 : x0_ = 5
            ·
              rw [if_pos hb4_5] at h
              refine zr_tableIn F 84 zd_MD_count_6 (by rw [hb4_5]; decide) (by rw [hb4_5]; decide) (by rw [hb4_5]; rfl) (by decide) ?_
              refine zr_aload_n F zd_MD_count_84 rfl ?_
              obtain ⟨le31, hs30, h⟩ := zoS_s h
              refine zr_get F 1 10 zd_MD_count_85 (zW_o hs30 (by decide)) rfl (by decide) zw_1690 rfl (by rfl) ?_
              obtain rfl := Option.some.inj h
              exact zr_iret F hr zd_MD_count_88 (Nat.le_of_ble_eq_true rfl) (Nat.le_of_ble_eq_true rfl) ⟨rfl, rfl, rfl⟩
            ·
              rw [if_neg hb4_5] at h
              refine zr_tableOut F 89 zd_MD_count_6 (zx_out x0_ 0 5 (by decide) (by decide) (by decide) (by omega) (fun j hj => by match j, hj with | 0, _ => exact hb4_0 | 1, _ => exact hb4_1 | 2, _ => exact hb4_2 | 3, _ => exact hb4_3 | 4, _ => exact hb4_4 | 5, _ => exact hb4_5 | j + 6, hq => exact absurd hq (by omega))) (by decide) ?_
              refine zr_iconstv (v := (-1)) F zd_MD_count_89 (by decide) ?_
              obtain rfl := Option.some.inj h
              exact zr_iret F hr zd_MD_count_90 (Nat.le_of_ble_eq_true rfl) (Nat.le_of_ble_eq_true rfl) ⟨rfl, rfl, rfl⟩
theorem zw_1374 : (Jvm.Cond.fieldLink "OrreryBoxModel" (143 : Nat) "OrreryBoxModel$Scene" "parent" "[I") ∈ gw := gw_t 1374 (by decide +kernel) rfl
def F_MD_hang (sh : zSh) (mm : zMem) (o : Nat) (x0_ : Int32) (x1_ : Int32) : Option (Int32 × zMem) := zoS (sh o) 1 (fun le2 => zoL (mI mm o 11 0) (fun mm3 => (if x0_ < 0 then some (0, mm3) else zoS (sh o) 1 (fun le6 => Option.bind (mm3.2.2 o 4) (fun a7 => zoS (sh a7) 15 (fun le9 => (if (mm3.1 a7 3) ≤ x0_ then some (0, mm3) else (if x1_ < (-1) then some (0, mm3) else (if x1_ < x0_ then zoS (sh o) 1 (fun le14 => Option.bind (mm3.2.2 o 4) (fun a15 => zoS (sh a15) 15 (fun le17 => Option.bind (mm3.2.2 a15 19) (fun a18 => zoS (sh a18) 100 (fun le20 => if (x0_ : Int32) < 0 ∨ le20 ≤ (x0_ : Int32).toNatClampNeg then none else zoL (mI mm3 a18 (x0_ : Int32).toNatClampNeg x1_) (fun mm22 => some (1, mm22))))))) else some (0, mm3))))))))))
set_option maxHeartbeats 4000000 in
set_option maxRecDepth 100000 in
theorem k_MD_hang (l : Launch) (D : va_G) (tA : Nat → ClassId) (b : Nat) (sh : zSh) (n : Nat) {mm : zMem} {o : Nat} {x0_ : Int32} {x1_ : Int32} {r : (Int32 × zMem)} (h : F_MD_hang sh mm o x0_ x1_ = some r) : zM l D tA b zy_MD_hang zb_MD_hang 3 (some .boolean) 0 0 0 0 [.ref (b + o), .int x0_, .int x1_] (zW tA b sh mm) n (zE (some (.int (r.1))) (zW tA b sh r.2) n) := by
  unfold F_MD_hang at h
  refine zM_of (own := "OrreryBoxModel") (plainFor_of_name (by decide)) rfl (Nat.le_of_ble_eq_true rfl) (fun p e s m below meth c F hr hin hH => ?_)
  refine zr_aload_n F zd_MD_hang_0 rfl ?_
  refine zr_iconstv (v := 0) F zd_MD_hang_1 (by decide) ?_
  obtain ⟨le2, hs1, h⟩ := zoS_s h
  refine zr_put F 1 11 zd_MD_hang_2 (zW_o hs1 (by decide)) rfl (by decide) zw_1691 rfl rfl rfl rfl (by exact (Nat.le_of_ble_eq_true rfl)) ?_
  obtain ⟨mm3, emm3, h⟩ := zoL_s h
  refine zr_norm (zW tA b sh mm3) _ (by rw [emm3]; exact zW_pI (v := 0) hs1 (by decide) (zf_I_1_11 b _ _ _)) rfl ?_
  refine zr_iload_n F zd_MD_hang_5 rfl ?_
  refine zr_if_lt F 30 zd_MD_hang_6 (by decide) (fun hb4 => ?_) (fun hb4 => ?_)
  ·
    rw [if_pos hb4] at h
    refine zr_iconstv (v := 0) F zd_MD_hang_30 (by decide) ?_
    obtain rfl := Option.some.inj h
    exact zr_zret F hr rfl zd_MD_hang_31 (Nat.le_of_ble_eq_true rfl) (Nat.le_of_ble_eq_true rfl) ⟨rfl, rfl, rfl⟩
  ·
    rw [if_neg hb4] at h
    refine zr_pcn 9 rfl ?_
    refine zr_iload_n F zd_MD_hang_9 rfl ?_
    refine zr_aload_n F zd_MD_hang_10 rfl ?_
    obtain ⟨le6, hs5, h⟩ := zoS_s h
    obtain ⟨a7, ea7, h⟩ := zoB_s h
    refine zr_get F 1 4 zd_MD_hang_11 (zW_o hs5 (by decide)) rfl (by decide) zw_1684 rfl (by rfl) ?_
    refine zr_tor ea7 ?_
    obtain ⟨le9, hs8, h⟩ := zoS_s h
    refine zr_get F 15 3 zd_MD_hang_14 (zW_o hs8 (by decide)) rfl (by decide) zw_1325 rfl (by rfl) ?_
    refine zr_icmp_ge F 30 zd_MD_hang_17 (by decide) (fun hb10 => ?_) (fun hb10 => ?_)
    ·
      rw [if_pos hb10] at h
      refine zr_iconstv (v := 0) F zd_MD_hang_30 (by decide) ?_
      obtain rfl := Option.some.inj h
      exact zr_zret F hr rfl zd_MD_hang_31 (Nat.le_of_ble_eq_true rfl) (Nat.le_of_ble_eq_true rfl) ⟨rfl, rfl, rfl⟩
    ·
      rw [if_neg hb10] at h
      refine zr_iload_n F zd_MD_hang_20 rfl ?_
      refine zr_pcn 21 rfl ?_
      refine zr_iconstv (v := (-1)) F zd_MD_hang_21 (by decide) ?_
      refine zr_icmp_lt F 30 zd_MD_hang_22 (by decide) (fun hb11 => ?_) (fun hb11 => ?_)
      ·
        rw [if_pos hb11] at h
        refine zr_iconstv (v := 0) F zd_MD_hang_30 (by decide) ?_
        obtain rfl := Option.some.inj h
        exact zr_zret F hr rfl zd_MD_hang_31 (Nat.le_of_ble_eq_true rfl) (Nat.le_of_ble_eq_true rfl) ⟨rfl, rfl, rfl⟩
      ·
        rw [if_neg hb11] at h
        refine zr_iload_n F zd_MD_hang_25 rfl ?_
        refine zr_iload_n F zd_MD_hang_26 rfl ?_
        refine zr_icmp_lt F 32 zd_MD_hang_27 (by decide) (fun hb12 => ?_) (fun hb12 => ?_)
        ·
          rw [if_pos hb12] at h
          refine zr_aload_n F zd_MD_hang_32 rfl ?_
          refine zr_pcn 33 rfl ?_
          obtain ⟨le14, hs13, h⟩ := zoS_s h
          obtain ⟨a15, ea15, h⟩ := zoB_s h
          refine zr_get F 1 4 zd_MD_hang_33 (zW_o hs13 (by decide)) rfl (by decide) zw_1684 rfl (by rfl) ?_
          refine zr_tor ea15 ?_
          obtain ⟨le17, hs16, h⟩ := zoS_s h
          obtain ⟨a18, ea18, h⟩ := zoB_s h
          refine zr_get F 15 19 zd_MD_hang_36 (zW_o hs16 (by decide)) rfl (by decide) zw_1374 rfl (by rfl) ?_
          refine zr_tor ea18 ?_
          refine zr_iload_n F zd_MD_hang_39 rfl ?_
          refine zr_iload_n F zd_MD_hang_40 rfl ?_
          obtain ⟨le20, hs19, h⟩ := zoS_s h
          obtain ⟨hi21, h⟩ := zoI_s h
          refine zr_iast F zd_MD_hang_41 (zW_a0 hs19) hi21 ?_
          obtain ⟨mm22, emm22, h⟩ := zoL_s h
          refine zr_norm (zW tA b sh mm22) _ (by rw [emm22]; exact zW_s0 hs19) rfl ?_
          refine zr_iconstv (v := 1) F zd_MD_hang_42 (by decide) ?_
          obtain rfl := Option.some.inj h
          exact zr_zret F hr rfl zd_MD_hang_43 (Nat.le_of_ble_eq_true rfl) (Nat.le_of_ble_eq_true rfl) ⟨rfl, rfl, rfl⟩
        ·
          rw [if_neg hb12] at h
          refine zr_iconstv (v := 0) F zd_MD_hang_30 (by decide) ?_
          refine zr_pcn 31 rfl ?_
          obtain rfl := Option.some.inj h
          exact zr_zret F hr rfl zd_MD_hang_31 (Nat.le_of_ble_eq_true rfl) (Nat.le_of_ble_eq_true rfl) ⟨rfl, rfl, rfl⟩
theorem zw_1389 : (Jvm.Cond.fieldLink "OrreryBoxModel" (146 : Nat) "OrreryBoxModel$Scene" "hidden" "[Z") ∈ gw := gw_t 1389 (by decide +kernel) rfl
def F_MD_hide (sh : zSh) (mm : zMem) (o : Nat) (x0_ : Int32) (x1_ : Int32) : Option (Int32 × zMem) := zoS (sh o) 1 (fun le2 => zoL (mI mm o 11 0) (fun mm3 => (if x0_ < 0 then some (0, mm3) else zoS (sh o) 1 (fun le6 => Option.bind (mm3.2.2 o 4) (fun a7 => zoS (sh a7) 15 (fun le9 => (if x0_ < (mm3.1 a7 3) then zoS (sh o) 1 (fun le12 => Option.bind (mm3.2.2 o 4) (fun a13 => zoS (sh a13) 15 (fun le15 => Option.bind (mm3.2.2 a13 24) (fun a16 => zoS (sh a16) 103 (fun le18 => if (x0_ : Int32) < 0 ∨ le18 ≤ (x0_ : Int32).toNatClampNeg then none else zoL (mI mm3 a16 (x0_ : Int32).toNatClampNeg (vp_nar .boolean x1_)) (fun mm20 => some (1, mm20))))))) else some (0, mm3))))))))
set_option maxHeartbeats 4000000 in
set_option maxRecDepth 100000 in
theorem k_MD_hide (l : Launch) (D : va_G) (tA : Nat → ClassId) (b : Nat) (sh : zSh) (n : Nat) {mm : zMem} {o : Nat} {x0_ : Int32} {x1_ : Int32} {r : (Int32 × zMem)} (h : F_MD_hide sh mm o x0_ x1_ = some r) : zM l D tA b zy_MD_hide zb_MD_hide 3 (some .boolean) 0 0 0 0 [.ref (b + o), .int x0_, .int x1_] (zW tA b sh mm) n (zE (some (.int (r.1))) (zW tA b sh r.2) n) := by
  unfold F_MD_hide at h
  refine zM_of (own := "OrreryBoxModel") (plainFor_of_name (by decide)) rfl (Nat.le_of_ble_eq_true rfl) (fun p e s m below meth c F hr hin hH => ?_)
  refine zr_aload_n F zd_MD_hide_0 rfl ?_
  refine zr_iconstv (v := 0) F zd_MD_hide_1 (by decide) ?_
  obtain ⟨le2, hs1, h⟩ := zoS_s h
  refine zr_put F 1 11 zd_MD_hide_2 (zW_o hs1 (by decide)) rfl (by decide) zw_1691 rfl rfl rfl rfl (by exact (Nat.le_of_ble_eq_true rfl)) ?_
  obtain ⟨mm3, emm3, h⟩ := zoL_s h
  refine zr_norm (zW tA b sh mm3) _ (by rw [emm3]; exact zW_pI (v := 0) hs1 (by decide) (zf_I_1_11 b _ _ _)) rfl ?_
  refine zr_iload_n F zd_MD_hide_5 rfl ?_
  refine zr_if_lt F 20 zd_MD_hide_6 (by decide) (fun hb4 => ?_) (fun hb4 => ?_)
  ·
    rw [if_pos hb4] at h
    refine zr_iconstv (v := 0) F zd_MD_hide_20 (by decide) ?_
    obtain rfl := Option.some.inj h
    exact zr_zret F hr rfl zd_MD_hide_21 (Nat.le_of_ble_eq_true rfl) (Nat.le_of_ble_eq_true rfl) ⟨rfl, rfl, rfl⟩
  ·
    rw [if_neg hb4] at h
    refine zr_pcn 9 rfl ?_
    refine zr_iload_n F zd_MD_hide_9 rfl ?_
    refine zr_aload_n F zd_MD_hide_10 rfl ?_
    obtain ⟨le6, hs5, h⟩ := zoS_s h
    obtain ⟨a7, ea7, h⟩ := zoB_s h
    refine zr_get F 1 4 zd_MD_hide_11 (zW_o hs5 (by decide)) rfl (by decide) zw_1684 rfl (by rfl) ?_
    refine zr_tor ea7 ?_
    obtain ⟨le9, hs8, h⟩ := zoS_s h
    refine zr_get F 15 3 zd_MD_hide_14 (zW_o hs8 (by decide)) rfl (by decide) zw_1325 rfl (by rfl) ?_
    refine zr_icmp_lt F 22 zd_MD_hide_17 (by decide) (fun hb10 => ?_) (fun hb10 => ?_)
    ·
      rw [if_pos hb10] at h
      refine zr_aload_n F zd_MD_hide_22 rfl ?_
      obtain ⟨le12, hs11, h⟩ := zoS_s h
      obtain ⟨a13, ea13, h⟩ := zoB_s h
      refine zr_get F 1 4 zd_MD_hide_23 (zW_o hs11 (by decide)) rfl (by decide) zw_1684 rfl (by rfl) ?_
      refine zr_tor ea13 ?_
      obtain ⟨le15, hs14, h⟩ := zoS_s h
      obtain ⟨a16, ea16, h⟩ := zoB_s h
      refine zr_get F 15 24 zd_MD_hide_26 (zW_o hs14 (by decide)) rfl (by decide) zw_1389 rfl (by rfl) ?_
      refine zr_tor ea16 ?_
      refine zr_pcn 29 rfl ?_
      refine zr_iload_n F zd_MD_hide_29 rfl ?_
      refine zr_iload_n F zd_MD_hide_30 rfl ?_
      obtain ⟨le18, hs17, h⟩ := zoS_s h
      obtain ⟨hi19, h⟩ := zoI_s h
      refine zr_zast F zd_MD_hide_31 (zW_a3 hs17) hi19 ?_
      obtain ⟨mm20, emm20, h⟩ := zoL_s h
      refine zr_norm (zW tA b sh mm20) _ (by rw [emm20]; exact zW_s3 hs17) rfl ?_
      refine zr_iconstv (v := 1) F zd_MD_hide_32 (by decide) ?_
      obtain rfl := Option.some.inj h
      exact zr_zret F hr rfl zd_MD_hide_33 (Nat.le_of_ble_eq_true rfl) (Nat.le_of_ble_eq_true rfl) ⟨rfl, rfl, rfl⟩
    ·
      rw [if_neg hb10] at h
      refine zr_iconstv (v := 0) F zd_MD_hide_20 (by decide) ?_
      obtain rfl := Option.some.inj h
      exact zr_zret F hr rfl zd_MD_hide_21 (Nat.le_of_ble_eq_true rfl) (Nat.le_of_ble_eq_true rfl) ⟨rfl, rfl, rfl⟩
theorem zf_I_15_34 (b : Nat) (m : zMem) (k : Nat) (v : Int32) : (zfl b 15 m k).set 34 (.int v) = zfl b 15 (mI m k 34 v) k := by simp [zfl, mI, upd, vp_updL]
def F_MD_camera (sh : zSh) (mm : zMem) (o : Nat) (x0_ : Int32) (x1_ : Int32) (x2_ : Int32) (x3_ : Int32) : Option (Int32 × zMem) := zoS (sh o) 1 (fun le2 => zoL (mI mm o 11 0) (fun mm3 => (if x0_ < 0 then some (0, mm3) else (if x0_ ≤ 2 then (if x0_ = 2 then (if x1_ < 8 then some (0, mm3) else (if x1_ ≤ 512 then zoS (sh o) 1 (fun le51 => Option.bind (mm3.2.2 o 4) (fun a52 => zoS (sh a52) 15 (fun le54 => zoL (mI mm3 a52 34 x1_) (fun mm55 => some (1, mm55))))) else some (0, mm3))) else (if x0_ = 0 then (if (sp_MD_within x1_ x2_ x3_ 4194304) = 0 then some (0, mm3) else zoS (sh o) 1 (fun le31 => Option.bind (mm3.2.2 o 4) (fun a32 => zoS (sh a32) 15 (fun le34 => Option.bind (mm3.2.2 a32 31) (fun a35 => zoS (sh a35) 100 (fun le37 => if (0 : Int32) < 0 ∨ le37 ≤ (0 : Int32).toNatClampNeg then none else zoL (mI mm3 a35 (0 : Int32).toNatClampNeg x1_) (fun mm39 => zoS (sh a35) 100 (fun le41 => if (1 : Int32) < 0 ∨ le41 ≤ (1 : Int32).toNatClampNeg then none else zoL (mI mm39 a35 (1 : Int32).toNatClampNeg x2_) (fun mm43 => zoS (sh a35) 100 (fun le45 => if (2 : Int32) < 0 ∨ le45 ≤ (2 : Int32).toNatClampNeg then none else zoL (mI mm43 a35 (2 : Int32).toNatClampNeg x3_) (fun mm47 => some (1, mm47)))))))))))) else (if (sp_MD_within x1_ x2_ x3_ 1048576) = 0 then some (0, mm3) else zoS (sh o) 1 (fun le11 => Option.bind (mm3.2.2 o 4) (fun a12 => zoS (sh a12) 15 (fun le14 => Option.bind (mm3.2.2 a12 32) (fun a15 => zoS (sh a15) 100 (fun le17 => if (0 : Int32) < 0 ∨ le17 ≤ (0 : Int32).toNatClampNeg then none else zoL (mI mm3 a15 (0 : Int32).toNatClampNeg x1_) (fun mm19 => zoS (sh a15) 100 (fun le21 => if (1 : Int32) < 0 ∨ le21 ≤ (1 : Int32).toNatClampNeg then none else zoL (mI mm19 a15 (1 : Int32).toNatClampNeg x2_) (fun mm23 => zoS (sh a15) 100 (fun le25 => if (2 : Int32) < 0 ∨ le25 ≤ (2 : Int32).toNatClampNeg then none else zoL (mI mm23 a15 (2 : Int32).toNatClampNeg x3_) (fun mm27 => some (1, mm27)))))))))))))) else some (0, mm3)))))
set_option maxHeartbeats 4000000 in
set_option maxRecDepth 100000 in
theorem k_MD_camera (l : Launch) (D : va_G) (tA : Nat → ClassId) (b : Nat) (sh : zSh) (n : Nat) {mm : zMem} {o : Nat} {x0_ : Int32} {x1_ : Int32} {x2_ : Int32} {x3_ : Int32} {r : (Int32 × zMem)} (h : F_MD_camera sh mm o x0_ x1_ x2_ x3_ = some r) : zM l D tA b zy_MD_camera zb_MD_camera 6 (some .boolean) 1 23 0 0 [.ref (b + o), .int x0_, .int x1_, .int x2_, .int x3_] (zW tA b sh mm) n (zE (some (.int (r.1))) (zW tA b sh r.2) n) := by
  unfold F_MD_camera at h
  refine zM_of (own := "OrreryBoxModel") (plainFor_of_name (by decide)) rfl (Nat.le_of_ble_eq_true rfl) (fun p e s m below meth c F hr hin hH => ?_)
  refine zr_aload_n F zd_MD_camera_0 rfl ?_
  refine zr_iconstv (v := 0) F zd_MD_camera_1 (by decide) ?_
  obtain ⟨le2, hs1, h⟩ := zoS_s h
  refine zr_put F 1 11 zd_MD_camera_2 (zW_o hs1 (by decide)) rfl (by decide) zw_1691 rfl rfl rfl rfl (by exact (Nat.le_of_ble_eq_true rfl)) ?_
  obtain ⟨mm3, emm3, h⟩ := zoL_s h
  refine zr_norm (zW tA b sh mm3) _ (by rw [emm3]; exact zW_pI (v := 0) hs1 (by decide) (zf_I_1_11 b _ _ _)) rfl ?_
  refine zr_iload_n F zd_MD_camera_5 rfl ?_
  refine zr_if_lt F 14 zd_MD_camera_6 (by decide) (fun hb4 => ?_) (fun hb4 => ?_)
  ·
    rw [if_pos hb4] at h
    refine zr_iconstv (v := 0) F zd_MD_camera_14 (by decide) ?_
    obtain rfl := Option.some.inj h
    exact zr_zret F hr rfl zd_MD_camera_15 (Nat.le_of_ble_eq_true rfl) (Nat.le_of_ble_eq_true rfl) ⟨rfl, rfl, rfl⟩
  ·
    rw [if_neg hb4] at h
    refine zr_pcn 9 rfl ?_
    refine zr_iload_n F zd_MD_camera_9 rfl ?_
    refine zr_iconstv (v := 2) F zd_MD_camera_10 (by decide) ?_
    refine zr_icmp_le F 16 zd_MD_camera_11 (by decide) (fun hb5 => ?_) (fun hb5 => ?_)
    ·
      rw [if_pos hb5] at h
      refine zr_iload_n F zd_MD_camera_16 rfl ?_
      refine zr_iconstv (v := 2) F zd_MD_camera_17 (by decide) ?_
      refine zr_icmp_ne F 46 zd_MD_camera_18 (by decide) (fun hb6 => ?_) (fun hb6 => ?_)
      ·
        rw [if_neg hb6] at h
        refine zr_iload_n F zd_MD_camera_46 rfl ?_
        refine zr_iload_n F zd_MD_camera_47 rfl ?_
        refine zr_pcn 48 rfl ?_
        refine zr_iload F zd_MD_camera_48 rfl ?_
        refine zr_iload_n F zd_MD_camera_50 rfl ?_
        refine zr_if_ne F 59 zd_MD_camera_51 (by decide) (fun hb7 => ?_) (fun hb7 => ?_)
        ·
          rw [if_neg hb7] at h
          refine zr_ldc F zd_MD_camera_59 zw_1961 ?_
          refine zr_callS1 F (c_MD_within l D tA b _ _ x1_ x2_ x3_ 1048576) zd_MD_camera_61 zs_MD_135 zq_MD_within rfl rfl ⟨(Nat.le_of_ble_eq_true rfl), (Nat.le_of_ble_eq_true rfl)⟩ (Nat.le_of_ble_eq_true rfl) ⟨(Nat.le_of_ble_eq_true rfl), (Nat.le_of_ble_eq_true rfl)⟩ ?_
          refine zr_if_ne F 69 zd_MD_camera_64 (by decide) (fun hb9 => ?_) (fun hb9 => ?_)
          ·
            rw [if_neg hb9] at h
            refine zr_iload_n F zd_MD_camera_69 rfl ?_
            refine zr_if_ne F 83 zd_MD_camera_70 (by decide) (fun _ => ?_) (fun hq => absurd hq hb7)
            refine zr_pcn 83 rfl ?_
            refine zr_aload_n F zd_MD_camera_83 rfl ?_
            obtain ⟨le11, hs10, h⟩ := zoS_s h
            obtain ⟨a12, ea12, h⟩ := zoB_s h
            refine zr_get F 1 4 zd_MD_camera_84 (zW_o hs10 (by decide)) rfl (by decide) zw_1684 rfl (by rfl) ?_
            refine zr_tor ea12 ?_
            obtain ⟨le14, hs13, h⟩ := zoS_s h
            obtain ⟨a15, ea15, h⟩ := zoB_s h
            refine zr_get F 15 32 zd_MD_camera_87 (zW_o hs13 (by decide)) rfl (by decide) zw_1410 rfl (by rfl) ?_
            refine zr_tor ea15 ?_
            refine zr_astore F zd_MD_camera_90 (by decide) ?_
            refine zr_aload F zd_MD_camera_92 rfl ?_
            refine zr_iconstv (v := 0) F zd_MD_camera_94 (by decide) ?_
            refine zr_iload_n F zd_MD_camera_95 rfl ?_
            obtain ⟨le17, hs16, h⟩ := zoS_s h
            obtain ⟨hi18, h⟩ := zoI_s h
            refine zr_iast F zd_MD_camera_96 (zW_a0 hs16) hi18 ?_
            obtain ⟨mm19, emm19, h⟩ := zoL_s h
            refine zr_norm (zW tA b sh mm19) _ (by rw [emm19]; exact zW_s0 hs16) rfl ?_
            refine zr_pcn 97 rfl ?_
            refine zr_aload F zd_MD_camera_97 rfl ?_
            refine zr_iconstv (v := 1) F zd_MD_camera_99 (by decide) ?_
            refine zr_iload_n F zd_MD_camera_100 rfl ?_
            obtain ⟨le21, hs20, h⟩ := zoS_s h
            obtain ⟨hi22, h⟩ := zoI_s h
            refine zr_iast F zd_MD_camera_101 (zW_a0 hs20) hi22 ?_
            obtain ⟨mm23, emm23, h⟩ := zoL_s h
            refine zr_norm (zW tA b sh mm23) _ (by rw [emm23]; exact zW_s0 hs20) rfl ?_
            refine zr_aload F zd_MD_camera_102 rfl ?_
            refine zr_iconstv (v := 2) F zd_MD_camera_104 (by decide) ?_
            refine zr_iload F zd_MD_camera_105 rfl ?_
            obtain ⟨le25, hs24, h⟩ := zoS_s h
            obtain ⟨hi26, h⟩ := zoI_s h
            refine zr_iast F zd_MD_camera_107 (zW_a0 hs24) hi26 ?_
            obtain ⟨mm27, emm27, h⟩ := zoL_s h
            refine zr_norm (zW tA b sh mm27) _ (by rw [emm27]; exact zW_s0 hs24) rfl ?_
            refine zr_pcn 108 rfl ?_
            refine zr_iconstv (v := 1) F zd_MD_camera_108 (by decide) ?_
            obtain rfl := Option.some.inj h
            exact zr_zret F hr rfl zd_MD_camera_109 (Nat.le_of_ble_eq_true rfl) (Nat.le_of_ble_eq_true rfl) ⟨rfl, rfl, rfl⟩
          ·
            rw [if_pos hb9] at h
            refine zr_iconstv (v := 0) F zd_MD_camera_67 (by decide) ?_
            obtain rfl := Option.some.inj h
            exact zr_zret F hr rfl zd_MD_camera_68 (Nat.le_of_ble_eq_true rfl) (Nat.le_of_ble_eq_true rfl) ⟨rfl, rfl, rfl⟩
        ·
          rw [if_pos hb7] at h
          refine zr_ldc F zd_MD_camera_54 zw_1960 ?_
          refine zr_goto F 61 zd_MD_camera_56 (by decide) ?_
          refine zr_callS1 F (c_MD_within l D tA b _ _ x1_ x2_ x3_ 4194304) zd_MD_camera_61 zs_MD_135 zq_MD_within rfl rfl ⟨(Nat.le_of_ble_eq_true rfl), (Nat.le_of_ble_eq_true rfl)⟩ (Nat.le_of_ble_eq_true rfl) ⟨(Nat.le_of_ble_eq_true rfl), (Nat.le_of_ble_eq_true rfl)⟩ ?_
          refine zr_if_ne F 69 zd_MD_camera_64 (by decide) (fun hb29 => ?_) (fun hb29 => ?_)
          ·
            rw [if_neg hb29] at h
            refine zr_pcn 69 rfl ?_
            refine zr_iload_n F zd_MD_camera_69 rfl ?_
            refine zr_if_ne F 83 zd_MD_camera_70 (by decide) (fun hq => absurd hb7 hq) (fun _ => ?_)
            refine zr_aload_n F zd_MD_camera_73 rfl ?_
            obtain ⟨le31, hs30, h⟩ := zoS_s h
            obtain ⟨a32, ea32, h⟩ := zoB_s h
            refine zr_get F 1 4 zd_MD_camera_74 (zW_o hs30 (by decide)) rfl (by decide) zw_1684 rfl (by rfl) ?_
            refine zr_tor ea32 ?_
            obtain ⟨le34, hs33, h⟩ := zoS_s h
            obtain ⟨a35, ea35, h⟩ := zoB_s h
            refine zr_get F 15 31 zd_MD_camera_77 (zW_o hs33 (by decide)) rfl (by decide) zw_1406 rfl (by rfl) ?_
            refine zr_tor ea35 ?_
            refine zr_goto F 90 zd_MD_camera_80 (by decide) ?_
            refine zr_astore F zd_MD_camera_90 (by decide) ?_
            refine zr_aload F zd_MD_camera_92 rfl ?_
            refine zr_pcn 94 rfl ?_
            refine zr_iconstv (v := 0) F zd_MD_camera_94 (by decide) ?_
            refine zr_iload_n F zd_MD_camera_95 rfl ?_
            obtain ⟨le37, hs36, h⟩ := zoS_s h
            obtain ⟨hi38, h⟩ := zoI_s h
            refine zr_iast F zd_MD_camera_96 (zW_a0 hs36) hi38 ?_
            obtain ⟨mm39, emm39, h⟩ := zoL_s h
            refine zr_norm (zW tA b sh mm39) _ (by rw [emm39]; exact zW_s0 hs36) rfl ?_
            refine zr_aload F zd_MD_camera_97 rfl ?_
            refine zr_iconstv (v := 1) F zd_MD_camera_99 (by decide) ?_
            refine zr_iload_n F zd_MD_camera_100 rfl ?_
            obtain ⟨le41, hs40, h⟩ := zoS_s h
            obtain ⟨hi42, h⟩ := zoI_s h
            refine zr_iast F zd_MD_camera_101 (zW_a0 hs40) hi42 ?_
            obtain ⟨mm43, emm43, h⟩ := zoL_s h
            refine zr_norm (zW tA b sh mm43) _ (by rw [emm43]; exact zW_s0 hs40) rfl ?_
            refine zr_aload F zd_MD_camera_102 rfl ?_
            refine zr_pcn 104 rfl ?_
            refine zr_iconstv (v := 2) F zd_MD_camera_104 (by decide) ?_
            refine zr_iload F zd_MD_camera_105 rfl ?_
            obtain ⟨le45, hs44, h⟩ := zoS_s h
            obtain ⟨hi46, h⟩ := zoI_s h
            refine zr_iast F zd_MD_camera_107 (zW_a0 hs44) hi46 ?_
            obtain ⟨mm47, emm47, h⟩ := zoL_s h
            refine zr_norm (zW tA b sh mm47) _ (by rw [emm47]; exact zW_s0 hs44) rfl ?_
            refine zr_iconstv (v := 1) F zd_MD_camera_108 (by decide) ?_
            obtain rfl := Option.some.inj h
            exact zr_zret F hr rfl zd_MD_camera_109 (Nat.le_of_ble_eq_true rfl) (Nat.le_of_ble_eq_true rfl) ⟨rfl, rfl, rfl⟩
          ·
            rw [if_pos hb29] at h
            refine zr_iconstv (v := 0) F zd_MD_camera_67 (by decide) ?_
            obtain rfl := Option.some.inj h
            exact zr_zret F hr rfl zd_MD_camera_68 (Nat.le_of_ble_eq_true rfl) (Nat.le_of_ble_eq_true rfl) ⟨rfl, rfl, rfl⟩
      ·
        rw [if_pos hb6] at h
        refine zr_iload_n F zd_MD_camera_21 rfl ?_
        refine zr_pcn 22 rfl ?_
        refine zr_bipushv (v := 8) F zd_MD_camera_22 (by decide) ?_
        refine zr_icmp_lt F 34 zd_MD_camera_24 (by decide) (fun hb48 => ?_) (fun hb48 => ?_)
        ·
          rw [if_pos hb48] at h
          refine zr_iconstv (v := 0) F zd_MD_camera_34 (by decide) ?_
          obtain rfl := Option.some.inj h
          exact zr_zret F hr rfl zd_MD_camera_35 (Nat.le_of_ble_eq_true rfl) (Nat.le_of_ble_eq_true rfl) ⟨rfl, rfl, rfl⟩
        ·
          rw [if_neg hb48] at h
          refine zr_iload_n F zd_MD_camera_27 rfl ?_
          refine zr_sipushv (v := 512) F zd_MD_camera_28 (by decide) ?_
          refine zr_icmp_le F 36 zd_MD_camera_31 (by decide) (fun hb49 => ?_) (fun hb49 => ?_)
          ·
            rw [if_pos hb49] at h
            refine zr_aload_n F zd_MD_camera_36 rfl ?_
            refine zr_pcn 37 rfl ?_
            obtain ⟨le51, hs50, h⟩ := zoS_s h
            obtain ⟨a52, ea52, h⟩ := zoB_s h
            refine zr_get F 1 4 zd_MD_camera_37 (zW_o hs50 (by decide)) rfl (by decide) zw_1684 rfl (by rfl) ?_
            refine zr_tor ea52 ?_
            refine zr_iload_n F zd_MD_camera_40 rfl ?_
            obtain ⟨le54, hs53, h⟩ := zoS_s h
            refine zr_put F 15 34 zd_MD_camera_41 (zW_o hs53 (by decide)) rfl (by decide) zw_1417 rfl rfl rfl rfl (by exact (Nat.le_of_ble_eq_true rfl)) ?_
            obtain ⟨mm55, emm55, h⟩ := zoL_s h
            refine zr_norm (zW tA b sh mm55) _ (by rw [emm55]; exact zW_pI (v := x1_) hs53 (by decide) (zf_I_15_34 b _ _ _)) rfl ?_
            refine zr_iconstv (v := 1) F zd_MD_camera_44 (by decide) ?_
            obtain rfl := Option.some.inj h
            exact zr_zret F hr rfl zd_MD_camera_45 (Nat.le_of_ble_eq_true rfl) (Nat.le_of_ble_eq_true rfl) ⟨rfl, rfl, rfl⟩
          ·
            rw [if_neg hb49] at h
            refine zr_iconstv (v := 0) F zd_MD_camera_34 (by decide) ?_
            obtain rfl := Option.some.inj h
            exact zr_zret F hr rfl zd_MD_camera_35 (Nat.le_of_ble_eq_true rfl) (Nat.le_of_ble_eq_true rfl) ⟨rfl, rfl, rfl⟩
    ·
      rw [if_neg hb5] at h
      refine zr_iconstv (v := 0) F zd_MD_camera_14 (by decide) ?_
      refine zr_pcn 15 rfl ?_
      obtain rfl := Option.some.inj h
      exact zr_zret F hr rfl zd_MD_camera_15 (Nat.le_of_ble_eq_true rfl) (Nat.le_of_ble_eq_true rfl) ⟨rfl, rfl, rfl⟩
theorem zf_I_15_35 (b : Nat) (m : zMem) (k : Nat) (v : Int32) : (zfl b 15 m k).set 35 (.int v) = zfl b 15 (mI m k 35 v) k := by simp [zfl, mI, upd, vp_updL]
def F_MD_light (sh : zSh) (mm : zMem) (o : Nat) (x0_ : Int32) (x1_ : Int32) (x2_ : Int32) (x3_ : Int32) : Option (Int32 × zMem) := zoS (sh o) 1 (fun le2 => zoL (mI mm o 11 0) (fun mm3 => (if (sp_MD_within x0_ x1_ x2_ 65536) = 0 then some (0, mm3) else (if x3_ < 0 then some (0, mm3) else (if x3_ ≤ 65536 then zoS (sh o) 1 (fun le9 => Option.bind (mm3.2.2 o 4) (fun a10 => zoS (sh a10) 15 (fun le12 => Option.bind (mm3.2.2 a10 33) (fun a13 => zoS (sh a13) 100 (fun le15 => if (0 : Int32) < 0 ∨ le15 ≤ (0 : Int32).toNatClampNeg then none else zoL (mI mm3 a13 (0 : Int32).toNatClampNeg x0_) (fun mm17 => zoS (sh o) 1 (fun le19 => Option.bind (mm17.2.2 o 4) (fun a20 => zoS (sh a20) 15 (fun le22 => Option.bind (mm17.2.2 a20 33) (fun a23 => zoS (sh a23) 100 (fun le25 => if (1 : Int32) < 0 ∨ le25 ≤ (1 : Int32).toNatClampNeg then none else zoL (mI mm17 a23 (1 : Int32).toNatClampNeg x1_) (fun mm27 => zoS (sh o) 1 (fun le29 => Option.bind (mm27.2.2 o 4) (fun a30 => zoS (sh a30) 15 (fun le32 => Option.bind (mm27.2.2 a30 33) (fun a33 => zoS (sh a33) 100 (fun le35 => if (2 : Int32) < 0 ∨ le35 ≤ (2 : Int32).toNatClampNeg then none else zoL (mI mm27 a33 (2 : Int32).toNatClampNeg x2_) (fun mm37 => zoS (sh o) 1 (fun le39 => Option.bind (mm37.2.2 o 4) (fun a40 => zoS (sh a40) 15 (fun le42 => zoL (mI mm37 a40 35 x3_) (fun mm43 => some (1, mm43))))))))))))))))))))))) else some (0, mm3))))))
set_option maxHeartbeats 4000000 in
set_option maxRecDepth 100000 in
theorem k_MD_light (l : Launch) (D : va_G) (tA : Nat → ClassId) (b : Nat) (sh : zSh) (n : Nat) {mm : zMem} {o : Nat} {x0_ : Int32} {x1_ : Int32} {x2_ : Int32} {x3_ : Int32} {r : (Int32 × zMem)} (h : F_MD_light sh mm o x0_ x1_ x2_ x3_ = some r) : zM l D tA b zy_MD_light zb_MD_light 5 (some .boolean) 1 23 0 0 [.ref (b + o), .int x0_, .int x1_, .int x2_, .int x3_] (zW tA b sh mm) n (zE (some (.int (r.1))) (zW tA b sh r.2) n) := by
  unfold F_MD_light at h
  refine zM_of (own := "OrreryBoxModel") (plainFor_of_name (by decide)) rfl (Nat.le_of_ble_eq_true rfl) (fun p e s m below meth c F hr hin hH => ?_)
  refine zr_aload_n F zd_MD_light_0 rfl ?_
  refine zr_iconstv (v := 0) F zd_MD_light_1 (by decide) ?_
  obtain ⟨le2, hs1, h⟩ := zoS_s h
  refine zr_put F 1 11 zd_MD_light_2 (zW_o hs1 (by decide)) rfl (by decide) zw_1691 rfl rfl rfl rfl (by exact (Nat.le_of_ble_eq_true rfl)) ?_
  obtain ⟨mm3, emm3, h⟩ := zoL_s h
  refine zr_norm (zW tA b sh mm3) _ (by rw [emm3]; exact zW_pI (v := 0) hs1 (by decide) (zf_I_1_11 b _ _ _)) rfl ?_
  refine zr_iload_n F zd_MD_light_5 rfl ?_
  refine zr_iload_n F zd_MD_light_6 rfl ?_
  refine zr_iload_n F zd_MD_light_7 rfl ?_
  refine zr_ldc F zd_MD_light_8 zw_1308 ?_
  refine zr_pcn 10 rfl ?_
  refine zr_callS1 F (c_MD_within l D tA b _ _ x0_ x1_ x2_ 65536) zd_MD_light_10 zs_MD_135 zq_MD_within rfl rfl ⟨(Nat.le_of_ble_eq_true rfl), (Nat.le_of_ble_eq_true rfl)⟩ (Nat.le_of_ble_eq_true rfl) ⟨(Nat.le_of_ble_eq_true rfl), (Nat.le_of_ble_eq_true rfl)⟩ ?_
  refine zr_if_eq F 28 zd_MD_light_13 (by decide) (fun hb5 => ?_) (fun hb5 => ?_)
  ·
    rw [if_pos hb5] at h
    refine zr_iconstv (v := 0) F zd_MD_light_28 (by decide) ?_
    obtain rfl := Option.some.inj h
    exact zr_zret F hr rfl zd_MD_light_29 (Nat.le_of_ble_eq_true rfl) (Nat.le_of_ble_eq_true rfl) ⟨rfl, rfl, rfl⟩
  ·
    rw [if_neg hb5] at h
    refine zr_iload F zd_MD_light_16 rfl ?_
    refine zr_if_lt F 28 zd_MD_light_18 (by decide) (fun hb6 => ?_) (fun hb6 => ?_)
    ·
      rw [if_pos hb6] at h
      refine zr_iconstv (v := 0) F zd_MD_light_28 (by decide) ?_
      obtain rfl := Option.some.inj h
      exact zr_zret F hr rfl zd_MD_light_29 (Nat.le_of_ble_eq_true rfl) (Nat.le_of_ble_eq_true rfl) ⟨rfl, rfl, rfl⟩
    ·
      rw [if_neg hb6] at h
      refine zr_pcn 21 rfl ?_
      refine zr_iload F zd_MD_light_21 rfl ?_
      refine zr_ldc F zd_MD_light_23 zw_1308 ?_
      refine zr_icmp_le F 30 zd_MD_light_25 (by decide) (fun hb7 => ?_) (fun hb7 => ?_)
      ·
        rw [if_pos hb7] at h
        refine zr_aload_n F zd_MD_light_30 rfl ?_
        obtain ⟨le9, hs8, h⟩ := zoS_s h
        obtain ⟨a10, ea10, h⟩ := zoB_s h
        refine zr_get F 1 4 zd_MD_light_31 (zW_o hs8 (by decide)) rfl (by decide) zw_1684 rfl (by rfl) ?_
        refine zr_tor ea10 ?_
        obtain ⟨le12, hs11, h⟩ := zoS_s h
        obtain ⟨a13, ea13, h⟩ := zoB_s h
        refine zr_get F 15 33 zd_MD_light_34 (zW_o hs11 (by decide)) rfl (by decide) zw_1413 rfl (by rfl) ?_
        refine zr_tor ea13 ?_
        refine zr_iconstv (v := 0) F zd_MD_light_37 (by decide) ?_
        refine zr_iload_n F zd_MD_light_38 rfl ?_
        refine zr_pcn 39 rfl ?_
        obtain ⟨le15, hs14, h⟩ := zoS_s h
        obtain ⟨hi16, h⟩ := zoI_s h
        refine zr_iast F zd_MD_light_39 (zW_a0 hs14) hi16 ?_
        obtain ⟨mm17, emm17, h⟩ := zoL_s h
        refine zr_norm (zW tA b sh mm17) _ (by rw [emm17]; exact zW_s0 hs14) rfl ?_
        refine zr_aload_n F zd_MD_light_40 rfl ?_
        obtain ⟨le19, hs18, h⟩ := zoS_s h
        obtain ⟨a20, ea20, h⟩ := zoB_s h
        refine zr_get F 1 4 zd_MD_light_41 (zW_o hs18 (by decide)) rfl (by decide) zw_1684 rfl (by rfl) ?_
        refine zr_tor ea20 ?_
        obtain ⟨le22, hs21, h⟩ := zoS_s h
        obtain ⟨a23, ea23, h⟩ := zoB_s h
        refine zr_get F 15 33 zd_MD_light_44 (zW_o hs21 (by decide)) rfl (by decide) zw_1413 rfl (by rfl) ?_
        refine zr_tor ea23 ?_
        refine zr_iconstv (v := 1) F zd_MD_light_47 (by decide) ?_
        refine zr_iload_n F zd_MD_light_48 rfl ?_
        obtain ⟨le25, hs24, h⟩ := zoS_s h
        obtain ⟨hi26, h⟩ := zoI_s h
        refine zr_iast F zd_MD_light_49 (zW_a0 hs24) hi26 ?_
        obtain ⟨mm27, emm27, h⟩ := zoL_s h
        refine zr_norm (zW tA b sh mm27) _ (by rw [emm27]; exact zW_s0 hs24) rfl ?_
        refine zr_aload_n F zd_MD_light_50 rfl ?_
        refine zr_pcn 51 rfl ?_
        obtain ⟨le29, hs28, h⟩ := zoS_s h
        obtain ⟨a30, ea30, h⟩ := zoB_s h
        refine zr_get F 1 4 zd_MD_light_51 (zW_o hs28 (by decide)) rfl (by decide) zw_1684 rfl (by rfl) ?_
        refine zr_tor ea30 ?_
        obtain ⟨le32, hs31, h⟩ := zoS_s h
        obtain ⟨a33, ea33, h⟩ := zoB_s h
        refine zr_get F 15 33 zd_MD_light_54 (zW_o hs31 (by decide)) rfl (by decide) zw_1413 rfl (by rfl) ?_
        refine zr_tor ea33 ?_
        refine zr_iconstv (v := 2) F zd_MD_light_57 (by decide) ?_
        refine zr_iload_n F zd_MD_light_58 rfl ?_
        obtain ⟨le35, hs34, h⟩ := zoS_s h
        obtain ⟨hi36, h⟩ := zoI_s h
        refine zr_iast F zd_MD_light_59 (zW_a0 hs34) hi36 ?_
        obtain ⟨mm37, emm37, h⟩ := zoL_s h
        refine zr_norm (zW tA b sh mm37) _ (by rw [emm37]; exact zW_s0 hs34) rfl ?_
        refine zr_aload_n F zd_MD_light_60 rfl ?_
        obtain ⟨le39, hs38, h⟩ := zoS_s h
        obtain ⟨a40, ea40, h⟩ := zoB_s h
        refine zr_get F 1 4 zd_MD_light_61 (zW_o hs38 (by decide)) rfl (by decide) zw_1684 rfl (by rfl) ?_
        refine zr_tor ea40 ?_
        refine zr_iload F zd_MD_light_64 rfl ?_
        refine zr_pcn 66 rfl ?_
        obtain ⟨le42, hs41, h⟩ := zoS_s h
        refine zr_put F 15 35 zd_MD_light_66 (zW_o hs41 (by decide)) rfl (by decide) zw_1421 rfl rfl rfl rfl (by exact (Nat.le_of_ble_eq_true rfl)) ?_
        obtain ⟨mm43, emm43, h⟩ := zoL_s h
        refine zr_norm (zW tA b sh mm43) _ (by rw [emm43]; exact zW_pI (v := x3_) hs41 (by decide) (zf_I_15_35 b _ _ _)) rfl ?_
        refine zr_iconstv (v := 1) F zd_MD_light_69 (by decide) ?_
        obtain rfl := Option.some.inj h
        exact zr_zret F hr rfl zd_MD_light_70 (Nat.le_of_ble_eq_true rfl) (Nat.le_of_ble_eq_true rfl) ⟨rfl, rfl, rfl⟩
      ·
        rw [if_neg hb7] at h
        refine zr_iconstv (v := 0) F zd_MD_light_28 (by decide) ?_
        obtain rfl := Option.some.inj h
        exact zr_zret F hr rfl zd_MD_light_29 (Nat.le_of_ble_eq_true rfl) (Nat.le_of_ble_eq_true rfl) ⟨rfl, rfl, rfl⟩
def F_MD_background (sh : zSh) (mm : zMem) (o : Nat) (x0_ : Int32) (x1_ : Int32) (x2_ : Int32) : Option (Int32 × zMem) := zoS (sh o) 1 (fun le2 => zoL (mI mm o 11 0) (fun mm3 => (if (sp_MD_isByte x0_) = 0 then some (0, mm3) else (if (sp_MD_isByte x1_) = 0 then some (0, mm3) else (if (sp_MD_isByte x2_) = 0 then some (0, mm3) else zoS (sh o) 1 (fun le11 => Option.bind (mm3.2.2 o 14) (fun a12 => zoS (sh a12) 100 (fun le14 => if (0 : Int32) < 0 ∨ le14 ≤ (0 : Int32).toNatClampNeg then none else zoL (mI mm3 a12 (0 : Int32).toNatClampNeg x0_) (fun mm16 => zoS (sh o) 1 (fun le18 => Option.bind (mm16.2.2 o 14) (fun a19 => zoS (sh a19) 100 (fun le21 => if (1 : Int32) < 0 ∨ le21 ≤ (1 : Int32).toNatClampNeg then none else zoL (mI mm16 a19 (1 : Int32).toNatClampNeg x1_) (fun mm23 => zoS (sh o) 1 (fun le25 => Option.bind (mm23.2.2 o 14) (fun a26 => zoS (sh a26) 100 (fun le28 => if (2 : Int32) < 0 ∨ le28 ≤ (2 : Int32).toNatClampNeg then none else zoL (mI mm23 a26 (2 : Int32).toNatClampNeg x2_) (fun mm30 => some (1, mm30))))))))))))))))))
set_option maxHeartbeats 4000000 in
set_option maxRecDepth 100000 in
theorem k_MD_background (l : Launch) (D : va_G) (tA : Nat → ClassId) (b : Nat) (sh : zSh) (n : Nat) {mm : zMem} {o : Nat} {x0_ : Int32} {x1_ : Int32} {x2_ : Int32} {r : (Int32 × zMem)} (h : F_MD_background sh mm o x0_ x1_ x2_ = some r) : zM l D tA b zy_MD_background zb_MD_background 4 (some .boolean) 1 20 0 0 [.ref (b + o), .int x0_, .int x1_, .int x2_] (zW tA b sh mm) n (zE (some (.int (r.1))) (zW tA b sh r.2) n) := by
  unfold F_MD_background at h
  refine zM_of (own := "OrreryBoxModel") (plainFor_of_name (by decide)) rfl (Nat.le_of_ble_eq_true rfl) (fun p e s m below meth c F hr hin hH => ?_)
  refine zr_aload_n F zd_MD_background_0 rfl ?_
  refine zr_iconstv (v := 0) F zd_MD_background_1 (by decide) ?_
  obtain ⟨le2, hs1, h⟩ := zoS_s h
  refine zr_put F 1 11 zd_MD_background_2 (zW_o hs1 (by decide)) rfl (by decide) zw_1691 rfl rfl rfl rfl (by exact (Nat.le_of_ble_eq_true rfl)) ?_
  obtain ⟨mm3, emm3, h⟩ := zoL_s h
  refine zr_norm (zW tA b sh mm3) _ (by rw [emm3]; exact zW_pI (v := 0) hs1 (by decide) (zf_I_1_11 b _ _ _)) rfl ?_
  refine zr_iload_n F zd_MD_background_5 rfl ?_
  refine zr_callS1 F (c_MD_isByte l D tA b _ _ x0_) zd_MD_background_6 zs_MD_164 zq_MD_isByte rfl rfl ⟨(Nat.le_of_ble_eq_true rfl), (Nat.le_of_ble_eq_true rfl)⟩ (Nat.le_of_ble_eq_true rfl) ⟨(Nat.le_of_ble_eq_true rfl), (Nat.le_of_ble_eq_true rfl)⟩ ?_
  refine zr_if_eq F 26 zd_MD_background_9 (by decide) (fun hb5 => ?_) (fun hb5 => ?_)
  ·
    rw [if_pos hb5] at h
    refine zr_iconstv (v := 0) F zd_MD_background_26 (by decide) ?_
    refine zr_pcn 27 rfl ?_
    obtain rfl := Option.some.inj h
    exact zr_zret F hr rfl zd_MD_background_27 (Nat.le_of_ble_eq_true rfl) (Nat.le_of_ble_eq_true rfl) ⟨rfl, rfl, rfl⟩
  ·
    rw [if_neg hb5] at h
    refine zr_iload_n F zd_MD_background_12 rfl ?_
    refine zr_callS1 F (c_MD_isByte l D tA b _ _ x1_) zd_MD_background_13 zs_MD_164 zq_MD_isByte rfl rfl ⟨(Nat.le_of_ble_eq_true rfl), (Nat.le_of_ble_eq_true rfl)⟩ (Nat.le_of_ble_eq_true rfl) ⟨(Nat.le_of_ble_eq_true rfl), (Nat.le_of_ble_eq_true rfl)⟩ ?_
    refine zr_if_eq F 26 zd_MD_background_16 (by decide) (fun hb7 => ?_) (fun hb7 => ?_)
    ·
      rw [if_pos hb7] at h
      refine zr_iconstv (v := 0) F zd_MD_background_26 (by decide) ?_
      obtain rfl := Option.some.inj h
      exact zr_zret F hr rfl zd_MD_background_27 (Nat.le_of_ble_eq_true rfl) (Nat.le_of_ble_eq_true rfl) ⟨rfl, rfl, rfl⟩
    ·
      rw [if_neg hb7] at h
      refine zr_iload_n F zd_MD_background_19 rfl ?_
      refine zr_callS1 F (c_MD_isByte l D tA b _ _ x2_) zd_MD_background_20 zs_MD_164 zq_MD_isByte rfl rfl ⟨(Nat.le_of_ble_eq_true rfl), (Nat.le_of_ble_eq_true rfl)⟩ (Nat.le_of_ble_eq_true rfl) ⟨(Nat.le_of_ble_eq_true rfl), (Nat.le_of_ble_eq_true rfl)⟩ ?_
      refine zr_pcn 23 rfl ?_
      refine zr_if_ne F 28 zd_MD_background_23 (by decide) (fun hb9 => ?_) (fun hb9 => ?_)
      ·
        rw [if_neg hb9] at h
        refine zr_aload_n F zd_MD_background_28 rfl ?_
        obtain ⟨le11, hs10, h⟩ := zoS_s h
        obtain ⟨a12, ea12, h⟩ := zoB_s h
        refine zr_get F 1 14 zd_MD_background_29 (zW_o hs10 (by decide)) rfl (by decide) zw_1694 rfl (by rfl) ?_
        refine zr_tor ea12 ?_
        refine zr_iconstv (v := 0) F zd_MD_background_32 (by decide) ?_
        refine zr_iload_n F zd_MD_background_33 rfl ?_
        obtain ⟨le14, hs13, h⟩ := zoS_s h
        obtain ⟨hi15, h⟩ := zoI_s h
        refine zr_iast F zd_MD_background_34 (zW_a0 hs13) hi15 ?_
        obtain ⟨mm16, emm16, h⟩ := zoL_s h
        refine zr_norm (zW tA b sh mm16) _ (by rw [emm16]; exact zW_s0 hs13) rfl ?_
        refine zr_aload_n F zd_MD_background_35 rfl ?_
        obtain ⟨le18, hs17, h⟩ := zoS_s h
        obtain ⟨a19, ea19, h⟩ := zoB_s h
        refine zr_get F 1 14 zd_MD_background_36 (zW_o hs17 (by decide)) rfl (by decide) zw_1694 rfl (by rfl) ?_
        refine zr_tor ea19 ?_
        refine zr_pcn 39 rfl ?_
        refine zr_iconstv (v := 1) F zd_MD_background_39 (by decide) ?_
        refine zr_iload_n F zd_MD_background_40 rfl ?_
        obtain ⟨le21, hs20, h⟩ := zoS_s h
        obtain ⟨hi22, h⟩ := zoI_s h
        refine zr_iast F zd_MD_background_41 (zW_a0 hs20) hi22 ?_
        obtain ⟨mm23, emm23, h⟩ := zoL_s h
        refine zr_norm (zW tA b sh mm23) _ (by rw [emm23]; exact zW_s0 hs20) rfl ?_
        refine zr_aload_n F zd_MD_background_42 rfl ?_
        obtain ⟨le25, hs24, h⟩ := zoS_s h
        obtain ⟨a26, ea26, h⟩ := zoB_s h
        refine zr_get F 1 14 zd_MD_background_43 (zW_o hs24 (by decide)) rfl (by decide) zw_1694 rfl (by rfl) ?_
        refine zr_tor ea26 ?_
        refine zr_iconstv (v := 2) F zd_MD_background_46 (by decide) ?_
        refine zr_iload_n F zd_MD_background_47 rfl ?_
        obtain ⟨le28, hs27, h⟩ := zoS_s h
        obtain ⟨hi29, h⟩ := zoI_s h
        refine zr_iast F zd_MD_background_48 (zW_a0 hs27) hi29 ?_
        obtain ⟨mm30, emm30, h⟩ := zoL_s h
        refine zr_norm (zW tA b sh mm30) _ (by rw [emm30]; exact zW_s0 hs27) rfl ?_
        refine zr_pcn 49 rfl ?_
        refine zr_iconstv (v := 1) F zd_MD_background_49 (by decide) ?_
        obtain rfl := Option.some.inj h
        exact zr_zret F hr rfl zd_MD_background_50 (Nat.le_of_ble_eq_true rfl) (Nat.le_of_ble_eq_true rfl) ⟨rfl, rfl, rfl⟩
      ·
        rw [if_pos hb9] at h
        refine zr_iconstv (v := 0) F zd_MD_background_26 (by decide) ?_
        obtain rfl := Option.some.inj h
        exact zr_zret F hr rfl zd_MD_background_27 (Nat.le_of_ble_eq_true rfl) (Nat.le_of_ble_eq_true rfl) ⟨rfl, rfl, rfl⟩
def F_MD_across (sh : zSh) (mm : zMem) (o : Nat) : Option (Int32 × zMem) := zoS (sh o) 1 (fun le2 => some ((((mm.1 o 0) + 7) / 8), mm))
set_option maxHeartbeats 4000000 in
set_option maxRecDepth 100000 in
theorem k_MD_across (l : Launch) (D : va_G) (tA : Nat → ClassId) (b : Nat) (sh : zSh) (n : Nat) {mm : zMem} {o : Nat} {r : (Int32 × zMem)} (h : F_MD_across sh mm o = some r) : zM l D tA b zy_MD_across zb_MD_across 1 (some .int) 0 0 0 0 [.ref (b + o)] (zW tA b sh mm) n (zE (some (.int (r.1))) (zW tA b sh r.2) n) := by
  unfold F_MD_across at h
  refine zM_of (own := "OrreryBoxModel") (plainFor_of_name (by decide)) rfl (Nat.le_of_ble_eq_true rfl) (fun p e s m below meth c F hr hin hH => ?_)
  refine zr_aload_n F zd_MD_across_0 rfl ?_
  obtain ⟨le2, hs1, h⟩ := zoS_s h
  refine zr_get F 1 0 zd_MD_across_1 (zW_o hs1 (by decide)) rfl (by decide) zw_1680 rfl (by rfl) ?_
  refine zr_bipushv (v := 7) F zd_MD_across_4 (by decide) ?_
  refine zr_iadd F zd_MD_across_6 ?_
  refine zr_bipushv (v := 8) F zd_MD_across_7 (by decide) ?_
  refine zr_idiv F zd_MD_across_9 (by decide) ?_
  obtain rfl := Option.some.inj h
  exact zr_iret F hr zd_MD_across_10 (Nat.le_of_ble_eq_true rfl) (Nat.le_of_ble_eq_true rfl) ⟨rfl, rfl, rfl⟩
def F_MD_tiles (sh : zSh) (mm : zMem) (o : Nat) : Option (Int32 × zMem) := zoS (sh o) 1 (fun le2 => Option.bind (F_MD_across sh mm o) (fun p3 => zoS (sh o) 1 (fun le5 => some ((p3.1 * ((((p3.2).1 o 1) + 7) / 8)), p3.2))))
set_option maxHeartbeats 4000000 in
set_option maxRecDepth 100000 in
theorem k_MD_tiles (l : Launch) (D : va_G) (tA : Nat → ClassId) (b : Nat) (sh : zSh) (n : Nat) {mm : zMem} {o : Nat} {r : (Int32 × zMem)} (h : F_MD_tiles sh mm o = some r) : zM l D tA b zy_MD_tiles zb_MD_tiles 1 (some .int) 1 20 0 0 [.ref (b + o)] (zW tA b sh mm) n (zE (some (.int (r.1))) (zW tA b sh r.2) n) := by
  unfold F_MD_tiles at h
  refine zM_of (own := "OrreryBoxModel") (plainFor_of_name (by decide)) rfl (Nat.le_of_ble_eq_true rfl) (fun p e s m below meth c F hr hin hH => ?_)
  refine zr_aload_n F zd_MD_tiles_0 rfl ?_
  obtain ⟨le2, hs1, h⟩ := zoS_s h
  obtain ⟨p3, ep3, h⟩ := zoB_s h
  refine zr_callV1 F (k_MD_across l D tA b sh _ ep3) zd_MD_tiles_1 (zW_o hs1 (by decide)) rfl zs_MD_177 rfl zq_MD_across rfl rfl ⟨(Nat.le_of_ble_eq_true rfl), (Nat.le_of_ble_eq_true rfl)⟩ (Nat.le_of_ble_eq_true rfl) ⟨(Nat.le_of_ble_eq_true rfl), (Nat.le_of_ble_eq_true rfl)⟩ ?_
  refine zr_aload_n F zd_MD_tiles_4 rfl ?_
  obtain ⟨le5, hs4, h⟩ := zoS_s h
  refine zr_get F 1 1 zd_MD_tiles_5 (zW_o hs4 (by decide)) rfl (by decide) zw_1681 rfl (by rfl) ?_
  refine zr_bipushv (v := 7) F zd_MD_tiles_8 (by decide) ?_
  refine zr_iadd F zd_MD_tiles_10 ?_
  refine zr_bipushv (v := 8) F zd_MD_tiles_11 (by decide) ?_
  refine zr_pcn 13 rfl ?_
  refine zr_idiv F zd_MD_tiles_13 (by decide) ?_
  refine zr_imul F zd_MD_tiles_14 ?_
  obtain rfl := Option.some.inj h
  exact zr_iret F hr zd_MD_tiles_15 (Nat.le_of_ble_eq_true rfl) (Nat.le_of_ble_eq_true rfl) ⟨rfl, rfl, rfl⟩
def F_MD_isPixel (sh : zSh) (mm : zMem) (o : Nat) (x0_ : Int32) (x1_ : Int32) : Option (Int32 × zMem) := (if x0_ < 0 then some (0, mm) else zoS (sh o) 1 (fun le3 => (if (mm.1 o 0) ≤ x0_ then some (0, mm) else (if x1_ < 0 then some (0, mm) else zoS (sh o) 1 (fun le7 => (if (mm.1 o 1) ≤ x1_ then some (0, mm) else some (1, mm)))))))
set_option maxHeartbeats 4000000 in
set_option maxRecDepth 100000 in
theorem k_MD_isPixel (l : Launch) (D : va_G) (tA : Nat → ClassId) (b : Nat) (sh : zSh) (n : Nat) {mm : zMem} {o : Nat} {x0_ : Int32} {x1_ : Int32} {r : (Int32 × zMem)} (h : F_MD_isPixel sh mm o x0_ x1_ = some r) : zM l D tA b zy_MD_isPixel zb_MD_isPixel 3 (some .boolean) 0 0 0 0 [.ref (b + o), .int x0_, .int x1_] (zW tA b sh mm) n (zE (some (.int (r.1))) (zW tA b sh r.2) n) := by
  unfold F_MD_isPixel at h
  refine zM_of (own := "OrreryBoxModel") (plainFor_of_name (by decide)) rfl (Nat.le_of_ble_eq_true rfl) (fun p e s m below meth c F hr hin hH => ?_)
  refine zr_iload_n F zd_MD_isPixel_0 rfl ?_
  refine zr_if_lt F 28 zd_MD_isPixel_1 (by decide) (fun hb1 => ?_) (fun hb1 => ?_)
  ·
    rw [if_pos hb1] at h
    refine zr_iconstv (v := 0) F zd_MD_isPixel_28 (by decide) ?_
    obtain rfl := Option.some.inj h
    exact zr_zret F hr rfl zd_MD_isPixel_29 (Nat.le_of_ble_eq_true rfl) (Nat.le_of_ble_eq_true rfl) ⟨rfl, rfl, rfl⟩
  ·
    rw [if_neg hb1] at h
    refine zr_iload_n F zd_MD_isPixel_4 rfl ?_
    refine zr_aload_n F zd_MD_isPixel_5 rfl ?_
    obtain ⟨le3, hs2, h⟩ := zoS_s h
    refine zr_get F 1 0 zd_MD_isPixel_6 (zW_o hs2 (by decide)) rfl (by decide) zw_1680 rfl (by rfl) ?_
    refine zr_pcn 9 rfl ?_
    refine zr_icmp_ge F 28 zd_MD_isPixel_9 (by decide) (fun hb4 => ?_) (fun hb4 => ?_)
    ·
      rw [if_pos hb4] at h
      refine zr_iconstv (v := 0) F zd_MD_isPixel_28 (by decide) ?_
      obtain rfl := Option.some.inj h
      exact zr_zret F hr rfl zd_MD_isPixel_29 (Nat.le_of_ble_eq_true rfl) (Nat.le_of_ble_eq_true rfl) ⟨rfl, rfl, rfl⟩
    ·
      rw [if_neg hb4] at h
      refine zr_iload_n F zd_MD_isPixel_12 rfl ?_
      refine zr_if_lt F 28 zd_MD_isPixel_13 (by decide) (fun hb5 => ?_) (fun hb5 => ?_)
      ·
        rw [if_pos hb5] at h
        refine zr_iconstv (v := 0) F zd_MD_isPixel_28 (by decide) ?_
        obtain rfl := Option.some.inj h
        exact zr_zret F hr rfl zd_MD_isPixel_29 (Nat.le_of_ble_eq_true rfl) (Nat.le_of_ble_eq_true rfl) ⟨rfl, rfl, rfl⟩
      ·
        rw [if_neg hb5] at h
        refine zr_iload_n F zd_MD_isPixel_16 rfl ?_
        refine zr_pcn 17 rfl ?_
        refine zr_aload_n F zd_MD_isPixel_17 rfl ?_
        obtain ⟨le7, hs6, h⟩ := zoS_s h
        refine zr_get F 1 1 zd_MD_isPixel_18 (zW_o hs6 (by decide)) rfl (by decide) zw_1681 rfl (by rfl) ?_
        refine zr_icmp_ge F 28 zd_MD_isPixel_21 (by decide) (fun hb8 => ?_) (fun hb8 => ?_)
        ·
          rw [if_pos hb8] at h
          refine zr_iconstv (v := 0) F zd_MD_isPixel_28 (by decide) ?_
          obtain rfl := Option.some.inj h
          exact zr_zret F hr rfl zd_MD_isPixel_29 (Nat.le_of_ble_eq_true rfl) (Nat.le_of_ble_eq_true rfl) ⟨rfl, rfl, rfl⟩
        ·
          rw [if_neg hb8] at h
          refine zr_iconstv (v := 1) F zd_MD_isPixel_24 (by decide) ?_
          refine zr_goto F 29 zd_MD_isPixel_25 (by decide) ?_
          obtain rfl := Option.some.inj h
          exact zr_zret F hr rfl zd_MD_isPixel_29 (Nat.le_of_ble_eq_true rfl) (Nat.le_of_ble_eq_true rfl) ⟨rfl, rfl, rfl⟩
def F_MD_isDone (sh : zSh) (mm : zMem) (o : Nat) (x0_ : Int32) (x1_ : Int32) : Option (Int32 × zMem) := zoS (sh o) 1 (fun le2 => (if (mm.1 o 15) = 0 then some (0, mm) else zoS (sh o) 1 (fun le5 => Option.bind (F_MD_isPixel sh mm o x0_ x1_) (fun p6 => (if p6.1 = 0 then some (0, p6.2) else zoS (sh o) 1 (fun le9 => Option.bind ((p6.2).2.2 o 16) (fun a10 => zoS (sh o) 1 (fun le12 => Option.bind (F_MD_across sh (p6.2) o) (fun p13 => zoL ((p13.1 * (x1_ / 8)) + (x0_ / 8)) (fun i14 => zoS (sh a10) 103 (fun le16 => if (i14 : Int32) < 0 ∨ le16 ≤ (i14 : Int32).toNatClampNeg then none else (if ((p13.2).1 a10 (i14 : Int32).toNatClampNeg) = 0 then some (0, p13.2) else some (1, p13.2)))))))))))))
set_option maxHeartbeats 4000000 in
set_option maxRecDepth 100000 in
theorem k_MD_isDone (l : Launch) (D : va_G) (tA : Nat → ClassId) (b : Nat) (sh : zSh) (n : Nat) {mm : zMem} {o : Nat} {x0_ : Int32} {x1_ : Int32} {r : (Int32 × zMem)} (h : F_MD_isDone sh mm o x0_ x1_ = some r) : zM l D tA b zy_MD_isDone zb_MD_isDone 3 (some .boolean) 1 22 0 0 [.ref (b + o), .int x0_, .int x1_] (zW tA b sh mm) n (zE (some (.int (r.1))) (zW tA b sh r.2) n) := by
  unfold F_MD_isDone at h
  refine zM_of (own := "OrreryBoxModel") (plainFor_of_name (by decide)) rfl (Nat.le_of_ble_eq_true rfl) (fun p e s m below meth c F hr hin hH => ?_)
  refine zr_aload_n F zd_MD_isDone_0 rfl ?_
  obtain ⟨le2, hs1, h⟩ := zoS_s h
  refine zr_get F 1 15 zd_MD_isDone_1 (zW_o hs1 (by decide)) rfl (by decide) zw_1695 rfl (by rfl) ?_
  refine zr_if_eq F 42 zd_MD_isDone_4 (by decide) (fun hb3 => ?_) (fun hb3 => ?_)
  ·
    rw [if_pos hb3] at h
    refine zr_iconstv (v := 0) F zd_MD_isDone_42 (by decide) ?_
    obtain rfl := Option.some.inj h
    exact zr_zret F hr rfl zd_MD_isDone_43 (Nat.le_of_ble_eq_true rfl) (Nat.le_of_ble_eq_true rfl) ⟨rfl, rfl, rfl⟩
  ·
    rw [if_neg hb3] at h
    refine zr_aload_n F zd_MD_isDone_7 rfl ?_
    refine zr_iload_n F zd_MD_isDone_8 rfl ?_
    refine zr_pcn 9 rfl ?_
    refine zr_iload_n F zd_MD_isDone_9 rfl ?_
    obtain ⟨le5, hs4, h⟩ := zoS_s h
    obtain ⟨p6, ep6, h⟩ := zoB_s h
    refine zr_callV1 F (k_MD_isPixel l D tA b sh _ ep6) zd_MD_isDone_10 (zW_o hs4 (by decide)) rfl zs_MD_192 rfl zq_MD_isPixel rfl rfl ⟨(Nat.le_of_ble_eq_true rfl), (Nat.le_of_ble_eq_true rfl)⟩ (Nat.le_of_ble_eq_true rfl) ⟨(Nat.le_of_ble_eq_true rfl), (Nat.le_of_ble_eq_true rfl)⟩ ?_
    refine zr_if_eq F 42 zd_MD_isDone_13 (by decide) (fun hb7 => ?_) (fun hb7 => ?_)
    ·
      rw [if_pos hb7] at h
      refine zr_iconstv (v := 0) F zd_MD_isDone_42 (by decide) ?_
      obtain rfl := Option.some.inj h
      exact zr_zret F hr rfl zd_MD_isDone_43 (Nat.le_of_ble_eq_true rfl) (Nat.le_of_ble_eq_true rfl) ⟨rfl, rfl, rfl⟩
    ·
      rw [if_neg hb7] at h
      refine zr_aload_n F zd_MD_isDone_16 rfl ?_
      obtain ⟨le9, hs8, h⟩ := zoS_s h
      obtain ⟨a10, ea10, h⟩ := zoB_s h
      refine zr_get F 1 16 zd_MD_isDone_17 (zW_o hs8 (by decide)) rfl (by decide) zw_1696 rfl (by rfl) ?_
      refine zr_tor ea10 ?_
      refine zr_aload_n F zd_MD_isDone_20 rfl ?_
      refine zr_pcn 21 rfl ?_
      obtain ⟨le12, hs11, h⟩ := zoS_s h
      obtain ⟨p13, ep13, h⟩ := zoB_s h
      refine zr_callV1 F (k_MD_across l D tA b sh _ ep13) zd_MD_isDone_21 (zW_o hs11 (by decide)) rfl zs_MD_177 rfl zq_MD_across rfl rfl ⟨(Nat.le_of_ble_eq_true rfl), (Nat.le_of_ble_eq_true rfl)⟩ (Nat.le_of_ble_eq_true rfl) ⟨(Nat.le_of_ble_eq_true rfl), (Nat.le_of_ble_eq_true rfl)⟩ ?_
      refine zr_iload_n F zd_MD_isDone_24 rfl ?_
      refine zr_bipushv (v := 8) F zd_MD_isDone_25 (by decide) ?_
      refine zr_idiv F zd_MD_isDone_27 (by decide) ?_
      refine zr_imul F zd_MD_isDone_28 ?_
      refine zr_iload_n F zd_MD_isDone_29 rfl ?_
      refine zr_bipushv (v := 8) F zd_MD_isDone_30 (by decide) ?_
      refine zr_idiv F zd_MD_isDone_32 (by decide) ?_
      refine zr_pcn 33 rfl ?_
      refine zr_iadd F zd_MD_isDone_33 ?_
      obtain ⟨i14, ei14, h⟩ := zoL_s h
      rw [← ei14]
      obtain ⟨le16, hs15, h⟩ := zoS_s h
      obtain ⟨hi17, h⟩ := zoI_s h
      refine zr_zald F zd_MD_isDone_34 (zW_a3 hs15) hi17 ?_
      refine zr_if_eq F 42 zd_MD_isDone_35 (by decide) (fun hb18 => ?_) (fun hb18 => ?_)
      ·
        rw [if_pos hb18] at h
        refine zr_iconstv (v := 0) F zd_MD_isDone_42 (by decide) ?_
        obtain rfl := Option.some.inj h
        exact zr_zret F hr rfl zd_MD_isDone_43 (Nat.le_of_ble_eq_true rfl) (Nat.le_of_ble_eq_true rfl) ⟨rfl, rfl, rfl⟩
      ·
        rw [if_neg hb18] at h
        refine zr_iconstv (v := 1) F zd_MD_isDone_38 (by decide) ?_
        refine zr_goto F 43 zd_MD_isDone_39 (by decide) ?_
        obtain rfl := Option.some.inj h
        exact zr_zret F hr rfl zd_MD_isDone_43 (Nat.le_of_ble_eq_true rfl) (Nat.le_of_ble_eq_true rfl) ⟨rfl, rfl, rfl⟩
def F_MD_pixel (sh : zSh) (mm : zMem) (o : Nat) (x0_ : Int32) (x1_ : Int32) : Option (Int32 × zMem) := zoS (sh o) 1 (fun le2 => zoL (mI mm o 11 0) (fun mm3 => zoS (sh o) 1 (fun le5 => Option.bind (F_MD_isDone sh mm3 o x0_ x1_) (fun p6 => (if p6.1 = 0 then some ((-1), p6.2) else zoS (sh o) 1 (fun le9 => zoL (3 * ((((p6.2).1 o 0) * x1_) + x0_)) (fun x10 => zoS (sh o) 1 (fun le12 => Option.bind ((p6.2).2.2 o 17) (fun a13 => zoS (sh a13) 100 (fun le15 => if (x10 : Int32) < 0 ∨ le15 ≤ (x10 : Int32).toNatClampNeg then none else zoS (sh o) 1 (fun le18 => Option.bind ((p6.2).2.2 o 17) (fun a19 => zoL (x10 + 1) (fun i20 => zoS (sh a19) 100 (fun le22 => if (i20 : Int32) < 0 ∨ le22 ≤ (i20 : Int32).toNatClampNeg then none else zoS (sh o) 1 (fun le25 => Option.bind ((p6.2).2.2 o 17) (fun a26 => zoL (x10 + 2) (fun i27 => zoS (sh a26) 100 (fun le29 => if (i27 : Int32) < 0 ∨ le29 ≤ (i27 : Int32).toNatClampNeg then none else some ((((((p6.2).1 a13 (x10 : Int32).toNatClampNeg) * 65536) + (((p6.2).1 a19 (i20 : Int32).toNatClampNeg) * 256)) + ((p6.2).1 a26 (i27 : Int32).toNatClampNeg)), p6.2)))))))))))))))))))
set_option maxHeartbeats 4000000 in
set_option maxRecDepth 100000 in
theorem k_MD_pixel (l : Launch) (D : va_G) (tA : Nat → ClassId) (b : Nat) (sh : zSh) (n : Nat) {mm : zMem} {o : Nat} {x0_ : Int32} {x1_ : Int32} {r : (Int32 × zMem)} (h : F_MD_pixel sh mm o x0_ x1_ = some r) : zM l D tA b zy_MD_pixel zb_MD_pixel 4 (some .int) 2 44 0 0 [.ref (b + o), .int x0_, .int x1_] (zW tA b sh mm) n (zE (some (.int (r.1))) (zW tA b sh r.2) n) := by
  unfold F_MD_pixel at h
  refine zM_of (own := "OrreryBoxModel") (plainFor_of_name (by decide)) rfl (Nat.le_of_ble_eq_true rfl) (fun p e s m below meth c F hr hin hH => ?_)
  refine zr_aload_n F zd_MD_pixel_0 rfl ?_
  refine zr_iconstv (v := 0) F zd_MD_pixel_1 (by decide) ?_
  obtain ⟨le2, hs1, h⟩ := zoS_s h
  refine zr_put F 1 11 zd_MD_pixel_2 (zW_o hs1 (by decide)) rfl (by decide) zw_1691 rfl rfl rfl rfl (by exact (Nat.le_of_ble_eq_true rfl)) ?_
  obtain ⟨mm3, emm3, h⟩ := zoL_s h
  refine zr_norm (zW tA b sh mm3) _ (by rw [emm3]; exact zW_pI (v := 0) hs1 (by decide) (zf_I_1_11 b _ _ _)) rfl ?_
  refine zr_aload_n F zd_MD_pixel_5 rfl ?_
  refine zr_iload_n F zd_MD_pixel_6 rfl ?_
  refine zr_iload_n F zd_MD_pixel_7 rfl ?_
  obtain ⟨le5, hs4, h⟩ := zoS_s h
  obtain ⟨p6, ep6, h⟩ := zoB_s h
  refine zr_callV1 F (k_MD_isDone l D tA b sh _ ep6) zd_MD_pixel_8 (zW_o hs4 (by decide)) rfl zs_MD_196 rfl zq_MD_isDone rfl rfl ⟨(Nat.le_of_ble_eq_true rfl), (Nat.le_of_ble_eq_true rfl)⟩ (Nat.le_of_ble_eq_true rfl) ⟨(Nat.le_of_ble_eq_true rfl), (Nat.le_of_ble_eq_true rfl)⟩ ?_
  refine zr_pcn 11 rfl ?_
  refine zr_if_ne F 16 zd_MD_pixel_11 (by decide) (fun hb7 => ?_) (fun hb7 => ?_)
  ·
    rw [if_neg hb7] at h
    refine zr_iconstv (v := 3) F zd_MD_pixel_16 (by decide) ?_
    refine zr_aload_n F zd_MD_pixel_17 rfl ?_
    obtain ⟨le9, hs8, h⟩ := zoS_s h
    refine zr_get F 1 0 zd_MD_pixel_18 (zW_o hs8 (by decide)) rfl (by decide) zw_1680 rfl (by rfl) ?_
    refine zr_iload_n F zd_MD_pixel_21 rfl ?_
    refine zr_imul F zd_MD_pixel_22 ?_
    refine zr_iload_n F zd_MD_pixel_23 rfl ?_
    refine zr_iadd F zd_MD_pixel_24 ?_
    refine zr_pcn 25 rfl ?_
    refine zr_imul F zd_MD_pixel_25 ?_
    obtain ⟨x10, ex10, h⟩ := zoL_s h
    rw [← ex10]
    refine zr_istore_n F zd_MD_pixel_26 (by decide) ?_
    refine zr_aload_n F zd_MD_pixel_27 rfl ?_
    obtain ⟨le12, hs11, h⟩ := zoS_s h
    obtain ⟨a13, ea13, h⟩ := zoB_s h
    refine zr_get F 1 17 zd_MD_pixel_28 (zW_o hs11 (by decide)) rfl (by decide) zw_1697 rfl (by rfl) ?_
    refine zr_tor ea13 ?_
    refine zr_iload_n F zd_MD_pixel_31 rfl ?_
    obtain ⟨le15, hs14, h⟩ := zoS_s h
    obtain ⟨hi16, h⟩ := zoI_s h
    refine zr_iald F zd_MD_pixel_32 (zW_a0 hs14) hi16 ?_
    refine zr_ldc F zd_MD_pixel_33 zw_1308 ?_
    refine zr_imul F zd_MD_pixel_35 ?_
    refine zr_pcn 36 rfl ?_
    refine zr_aload_n F zd_MD_pixel_36 rfl ?_
    obtain ⟨le18, hs17, h⟩ := zoS_s h
    obtain ⟨a19, ea19, h⟩ := zoB_s h
    refine zr_get F 1 17 zd_MD_pixel_37 (zW_o hs17 (by decide)) rfl (by decide) zw_1697 rfl (by rfl) ?_
    refine zr_tor ea19 ?_
    refine zr_iload_n F zd_MD_pixel_40 rfl ?_
    refine zr_iconstv (v := 1) F zd_MD_pixel_41 (by decide) ?_
    refine zr_iadd F zd_MD_pixel_42 ?_
    obtain ⟨i20, ei20, h⟩ := zoL_s h
    rw [← ei20]
    obtain ⟨le22, hs21, h⟩ := zoS_s h
    obtain ⟨hi23, h⟩ := zoI_s h
    refine zr_iald F zd_MD_pixel_43 (zW_a0 hs21) hi23 ?_
    refine zr_sipushv (v := 256) F zd_MD_pixel_44 (by decide) ?_
    refine zr_imul F zd_MD_pixel_47 ?_
    refine zr_pcn 48 rfl ?_
    refine zr_iadd F zd_MD_pixel_48 ?_
    refine zr_aload_n F zd_MD_pixel_49 rfl ?_
    obtain ⟨le25, hs24, h⟩ := zoS_s h
    obtain ⟨a26, ea26, h⟩ := zoB_s h
    refine zr_get F 1 17 zd_MD_pixel_50 (zW_o hs24 (by decide)) rfl (by decide) zw_1697 rfl (by rfl) ?_
    refine zr_tor ea26 ?_
    refine zr_iload_n F zd_MD_pixel_53 rfl ?_
    refine zr_iconstv (v := 2) F zd_MD_pixel_54 (by decide) ?_
    refine zr_iadd F zd_MD_pixel_55 ?_
    obtain ⟨i27, ei27, h⟩ := zoL_s h
    rw [← ei27]
    obtain ⟨le29, hs28, h⟩ := zoS_s h
    obtain ⟨hi30, h⟩ := zoI_s h
    refine zr_iald F zd_MD_pixel_56 (zW_a0 hs28) hi30 ?_
    refine zr_iadd F zd_MD_pixel_57 ?_
    refine zr_pcn 58 rfl ?_
    obtain rfl := Option.some.inj h
    exact zr_iret F hr zd_MD_pixel_58 (Nat.le_of_ble_eq_true rfl) (Nat.le_of_ble_eq_true rfl) ⟨rfl, rfl, rfl⟩
  ·
    rw [if_pos hb7] at h
    refine zr_iconstv (v := (-1)) F zd_MD_pixel_14 (by decide) ?_
    obtain rfl := Option.some.inj h
    exact zr_iret F hr zd_MD_pixel_15 (Nat.le_of_ble_eq_true rfl) (Nat.le_of_ble_eq_true rfl) ⟨rfl, rfl, rfl⟩
def F_MD_nearness (sh : zSh) (mm : zMem) (o : Nat) (x0_ : Int32) (x1_ : Int32) : Option (Int32 × zMem) := zoS (sh o) 1 (fun le2 => zoL (mI mm o 11 0) (fun mm3 => zoS (sh o) 1 (fun le5 => Option.bind (F_MD_isDone sh mm3 o x0_ x1_) (fun p6 => (if p6.1 = 0 then some ((-1), p6.2) else zoS (sh o) 1 (fun le9 => Option.bind ((p6.2).2.2 o 18) (fun a10 => zoS (sh o) 1 (fun le12 => zoL ((((p6.2).1 o 0) * x1_) + x0_) (fun i13 => zoS (sh a10) 102 (fun le15 => if (i13 : Int32) < 0 ∨ le15 ≤ (i13 : Int32).toNatClampNeg then none else some (((((p6.2).2.1 a10 (i13 : Int32).toNatClampNeg) : Int64).toInt32), p6.2)))))))))))
set_option maxHeartbeats 4000000 in
set_option maxRecDepth 100000 in
theorem k_MD_nearness (l : Launch) (D : va_G) (tA : Nat → ClassId) (b : Nat) (sh : zSh) (n : Nat) {mm : zMem} {o : Nat} {x0_ : Int32} {x1_ : Int32} {r : (Int32 × zMem)} (h : F_MD_nearness sh mm o x0_ x1_ = some r) : zM l D tA b zy_MD_nearness zb_MD_nearness 3 (some .int) 2 44 0 0 [.ref (b + o), .int x0_, .int x1_] (zW tA b sh mm) n (zE (some (.int (r.1))) (zW tA b sh r.2) n) := by
  unfold F_MD_nearness at h
  refine zM_of (own := "OrreryBoxModel") (plainFor_of_name (by decide)) rfl (Nat.le_of_ble_eq_true rfl) (fun p e s m below meth c F hr hin hH => ?_)
  refine zr_aload_n F zd_MD_nearness_0 rfl ?_
  refine zr_iconstv (v := 0) F zd_MD_nearness_1 (by decide) ?_
  obtain ⟨le2, hs1, h⟩ := zoS_s h
  refine zr_put F 1 11 zd_MD_nearness_2 (zW_o hs1 (by decide)) rfl (by decide) zw_1691 rfl rfl rfl rfl (by exact (Nat.le_of_ble_eq_true rfl)) ?_
  obtain ⟨mm3, emm3, h⟩ := zoL_s h
  refine zr_norm (zW tA b sh mm3) _ (by rw [emm3]; exact zW_pI (v := 0) hs1 (by decide) (zf_I_1_11 b _ _ _)) rfl ?_
  refine zr_aload_n F zd_MD_nearness_5 rfl ?_
  refine zr_iload_n F zd_MD_nearness_6 rfl ?_
  refine zr_iload_n F zd_MD_nearness_7 rfl ?_
  obtain ⟨le5, hs4, h⟩ := zoS_s h
  obtain ⟨p6, ep6, h⟩ := zoB_s h
  refine zr_callV1 F (k_MD_isDone l D tA b sh _ ep6) zd_MD_nearness_8 (zW_o hs4 (by decide)) rfl zs_MD_196 rfl zq_MD_isDone rfl rfl ⟨(Nat.le_of_ble_eq_true rfl), (Nat.le_of_ble_eq_true rfl)⟩ (Nat.le_of_ble_eq_true rfl) ⟨(Nat.le_of_ble_eq_true rfl), (Nat.le_of_ble_eq_true rfl)⟩ ?_
  refine zr_pcn 11 rfl ?_
  refine zr_if_eq F 31 zd_MD_nearness_11 (by decide) (fun hb7 => ?_) (fun hb7 => ?_)
  ·
    rw [if_pos hb7] at h
    refine zr_iconstv (v := (-1)) F zd_MD_nearness_31 (by decide) ?_
    obtain rfl := Option.some.inj h
    exact zr_iret F hr zd_MD_nearness_32 (Nat.le_of_ble_eq_true rfl) (Nat.le_of_ble_eq_true rfl) ⟨rfl, rfl, rfl⟩
  ·
    rw [if_neg hb7] at h
    refine zr_aload_n F zd_MD_nearness_14 rfl ?_
    obtain ⟨le9, hs8, h⟩ := zoS_s h
    obtain ⟨a10, ea10, h⟩ := zoB_s h
    refine zr_get F 1 18 zd_MD_nearness_15 (zW_o hs8 (by decide)) rfl (by decide) zw_1698 rfl (by rfl) ?_
    refine zr_tor ea10 ?_
    refine zr_aload_n F zd_MD_nearness_18 rfl ?_
    obtain ⟨le12, hs11, h⟩ := zoS_s h
    refine zr_get F 1 0 zd_MD_nearness_19 (zW_o hs11 (by decide)) rfl (by decide) zw_1680 rfl (by rfl) ?_
    refine zr_iload_n F zd_MD_nearness_22 rfl ?_
    refine zr_pcn 23 rfl ?_
    refine zr_imul F zd_MD_nearness_23 ?_
    refine zr_iload_n F zd_MD_nearness_24 rfl ?_
    refine zr_iadd F zd_MD_nearness_25 ?_
    obtain ⟨i13, ei13, h⟩ := zoL_s h
    rw [← ei13]
    obtain ⟨le15, hs14, h⟩ := zoS_s h
    obtain ⟨hi16, h⟩ := zoI_s h
    refine zr_lald F zd_MD_nearness_26 (zW_a2 hs14) hi16 ?_
    refine zr_l2i F zd_MD_nearness_27 ?_
    refine zr_goto F 32 zd_MD_nearness_28 (by decide) ?_
    obtain rfl := Option.some.inj h
    exact zr_iret F hr zd_MD_nearness_32 (Nat.le_of_ble_eq_true rfl) (Nat.le_of_ble_eq_true rfl) ⟨rfl, rfl, rfl⟩
def F_MD_picked (sh : zSh) (mm : zMem) (o : Nat) : Option (Int32 × zMem) := zoS (sh o) 1 (fun le2 => zoL (mI mm o 11 0) (fun mm3 => zoS (sh o) 1 (fun le5 => some ((mm3.1 o 19), mm3))))
set_option maxHeartbeats 4000000 in
set_option maxRecDepth 100000 in
theorem k_MD_picked (l : Launch) (D : va_G) (tA : Nat → ClassId) (b : Nat) (sh : zSh) (n : Nat) {mm : zMem} {o : Nat} {r : (Int32 × zMem)} (h : F_MD_picked sh mm o = some r) : zM l D tA b zy_MD_picked zb_MD_picked 1 (some .int) 0 0 0 0 [.ref (b + o)] (zW tA b sh mm) n (zE (some (.int (r.1))) (zW tA b sh r.2) n) := by
  unfold F_MD_picked at h
  refine zM_of (own := "OrreryBoxModel") (plainFor_of_name (by decide)) rfl (Nat.le_of_ble_eq_true rfl) (fun p e s m below meth c F hr hin hH => ?_)
  refine zr_aload_n F zd_MD_picked_0 rfl ?_
  refine zr_iconstv (v := 0) F zd_MD_picked_1 (by decide) ?_
  obtain ⟨le2, hs1, h⟩ := zoS_s h
  refine zr_put F 1 11 zd_MD_picked_2 (zW_o hs1 (by decide)) rfl (by decide) zw_1691 rfl rfl rfl rfl (by exact (Nat.le_of_ble_eq_true rfl)) ?_
  obtain ⟨mm3, emm3, h⟩ := zoL_s h
  refine zr_norm (zW tA b sh mm3) _ (by rw [emm3]; exact zW_pI (v := 0) hs1 (by decide) (zf_I_1_11 b _ _ _)) rfl ?_
  refine zr_aload_n F zd_MD_picked_5 rfl ?_
  obtain ⟨le5, hs4, h⟩ := zoS_s h
  refine zr_get F 1 19 zd_MD_picked_6 (zW_o hs4 (by decide)) rfl (by decide) zw_1699 rfl (by rfl) ?_
  obtain rfl := Option.some.inj h
  exact zr_iret F hr zd_MD_picked_9 (Nat.le_of_ble_eq_true rfl) (Nat.le_of_ble_eq_true rfl) ⟨rfl, rfl, rfl⟩
def F_MD_byteAt (sh : zSh) (mm : zMem) (o : Nat) (x0_ : Int32) : Option (Int32 × zMem) := zoS (sh o) 1 (fun le2 => zoL (mI mm o 11 0) (fun mm3 => (if x0_ < 0 then some ((-1), mm3) else zoS (sh o) 1 (fun le6 => Option.bind (mm3.2.2 o 9) (fun a7 => zoS (sh a7) 12 (fun le9 => (if x0_ < (mm3.1 a7 3) then zoS (sh o) 1 (fun le12 => Option.bind (mm3.2.2 o 9) (fun a13 => zoS (sh a13) 12 (fun le15 => Option.bind (mm3.2.2 a13 2) (fun a16 => zoS (sh a16) 101 (fun le18 => if (x0_ : Int32) < 0 ∨ le18 ≤ (x0_ : Int32).toNatClampNeg then none else some (((mm3.1 a16 (x0_ : Int32).toNatClampNeg) &&& 255), mm3)))))) else some ((-1), mm3))))))))
set_option maxHeartbeats 4000000 in
set_option maxRecDepth 100000 in
theorem k_MD_byteAt (l : Launch) (D : va_G) (tA : Nat → ClassId) (b : Nat) (sh : zSh) (n : Nat) {mm : zMem} {o : Nat} {x0_ : Int32} {r : (Int32 × zMem)} (h : F_MD_byteAt sh mm o x0_ = some r) : zM l D tA b zy_MD_byteAt zb_MD_byteAt 2 (some .int) 0 0 0 0 [.ref (b + o), .int x0_] (zW tA b sh mm) n (zE (some (.int (r.1))) (zW tA b sh r.2) n) := by
  unfold F_MD_byteAt at h
  refine zM_of (own := "OrreryBoxModel") (plainFor_of_name (by decide)) rfl (Nat.le_of_ble_eq_true rfl) (fun p e s m below meth c F hr hin hH => ?_)
  refine zr_aload_n F zd_MD_byteAt_0 rfl ?_
  refine zr_iconstv (v := 0) F zd_MD_byteAt_1 (by decide) ?_
  obtain ⟨le2, hs1, h⟩ := zoS_s h
  refine zr_put F 1 11 zd_MD_byteAt_2 (zW_o hs1 (by decide)) rfl (by decide) zw_1691 rfl rfl rfl rfl (by exact (Nat.le_of_ble_eq_true rfl)) ?_
  obtain ⟨mm3, emm3, h⟩ := zoL_s h
  refine zr_norm (zW tA b sh mm3) _ (by rw [emm3]; exact zW_pI (v := 0) hs1 (by decide) (zf_I_1_11 b _ _ _)) rfl ?_
  refine zr_iload_n F zd_MD_byteAt_5 rfl ?_
  refine zr_if_lt F 20 zd_MD_byteAt_6 (by decide) (fun hb4 => ?_) (fun hb4 => ?_)
  ·
    rw [if_pos hb4] at h
    refine zr_iconstv (v := (-1)) F zd_MD_byteAt_20 (by decide) ?_
    refine zr_goto F 37 zd_MD_byteAt_21 (by decide) ?_
    refine zr_pcn 37 rfl ?_
    obtain rfl := Option.some.inj h
    exact zr_iret F hr zd_MD_byteAt_37 (Nat.le_of_ble_eq_true rfl) (Nat.le_of_ble_eq_true rfl) ⟨rfl, rfl, rfl⟩
  ·
    rw [if_neg hb4] at h
    refine zr_iload_n F zd_MD_byteAt_9 rfl ?_
    refine zr_aload_n F zd_MD_byteAt_10 rfl ?_
    obtain ⟨le6, hs5, h⟩ := zoS_s h
    obtain ⟨a7, ea7, h⟩ := zoB_s h
    refine zr_get F 1 9 zd_MD_byteAt_11 (zW_o hs5 (by decide)) rfl (by decide) zw_1689 rfl (by rfl) ?_
    refine zr_tor ea7 ?_
    obtain ⟨le9, hs8, h⟩ := zoS_s h
    refine zr_get F 12 3 zd_MD_byteAt_14 (zW_o hs8 (by decide)) rfl (by decide) zw_1551 rfl (by rfl) ?_
    refine zr_icmp_lt F 24 zd_MD_byteAt_17 (by decide) (fun hb10 => ?_) (fun hb10 => ?_)
    ·
      rw [if_pos hb10] at h
      refine zr_aload_n F zd_MD_byteAt_24 rfl ?_
      obtain ⟨le12, hs11, h⟩ := zoS_s h
      obtain ⟨a13, ea13, h⟩ := zoB_s h
      refine zr_get F 1 9 zd_MD_byteAt_25 (zW_o hs11 (by decide)) rfl (by decide) zw_1689 rfl (by rfl) ?_
      refine zr_tor ea13 ?_
      refine zr_pcn 28 rfl ?_
      obtain ⟨le15, hs14, h⟩ := zoS_s h
      obtain ⟨a16, ea16, h⟩ := zoB_s h
      refine zr_get F 12 2 zd_MD_byteAt_28 (zW_o hs14 (by decide)) rfl (by decide) zw_1549 rfl (by rfl) ?_
      refine zr_tor ea16 ?_
      refine zr_iload_n F zd_MD_byteAt_31 rfl ?_
      obtain ⟨le18, hs17, h⟩ := zoS_s h
      obtain ⟨hi19, h⟩ := zoI_s h
      refine zr_bald F zd_MD_byteAt_32 (zW_a1 hs17) hi19 ?_
      refine zr_sipushv (v := 255) F zd_MD_byteAt_33 (by decide) ?_
      refine zr_iand F zd_MD_byteAt_36 ?_
      obtain rfl := Option.some.inj h
      exact zr_iret F hr zd_MD_byteAt_37 (Nat.le_of_ble_eq_true rfl) (Nat.le_of_ble_eq_true rfl) ⟨rfl, rfl, rfl⟩
    ·
      rw [if_neg hb10] at h
      refine zr_iconstv (v := (-1)) F zd_MD_byteAt_20 (by decide) ?_
      refine zr_goto F 37 zd_MD_byteAt_21 (by decide) ?_
      refine zr_pcn 37 rfl ?_
      obtain rfl := Option.some.inj h
      exact zr_iret F hr zd_MD_byteAt_37 (Nat.le_of_ble_eq_true rfl) (Nat.le_of_ble_eq_true rfl) ⟨rfl, rfl, rfl⟩
def F_XFixed_along (sh : zSh) (mm : zMem) (x0_ : Nat) (x1_ : Int32) (x2_ : Int64) (x3_ : Int64) (x4_ : Int64) : Option (Int64 × zMem) := zoL (4 * x1_) (fun i1 => zoS (sh x0_) 100 (fun le3 => if (i1 : Int32) < 0 ∨ le3 ≤ (i1 : Int32).toNatClampNeg then none else zoL (((mm.1 x0_ (i1 : Int32).toNatClampNeg) : Int32).toInt64) (fun x5 => zoL ((4 * x1_) + 1) (fun i7 => zoS (sh x0_) 100 (fun le9 => if (i7 : Int32) < 0 ∨ le9 ≤ (i7 : Int32).toNatClampNeg then none else zoL (((mm.1 x0_ (i7 : Int32).toNatClampNeg) : Int32).toInt64) (fun x11 => zoL ((4 * x1_) + 2) (fun i13 => zoS (sh x0_) 100 (fun le15 => if (i13 : Int32) < 0 ∨ le15 ≤ (i13 : Int32).toNatClampNeg then none else zoL (((mm.1 x0_ (i13 : Int32).toNatClampNeg) : Int32).toInt64) (fun x17 => some ((((zx_mul x5 x2_) + (zx_mul x11 x3_)) + (zx_mul x17 x4_)), mm))))))))))
set_option maxHeartbeats 4000000 in
set_option maxRecDepth 100000 in
theorem k_XFixed_along (l : Launch) (D : va_G) (tA : Nat → ClassId) (b : Nat) (sh : zSh) (n : Nat) {mm : zMem} {x0_ : Nat} {x1_ : Int32} {x2_ : Int64} {x3_ : Int64} {x4_ : Int64} {r : (Int64 × zMem)} (h : F_XFixed_along sh mm x0_ x1_ x2_ x3_ x4_ = some r) : zM l D tA b zy_XFixed_along zb_XFixed_along 8 (some .long) 1 23 0 0 [.ref (b + x0_), .int x1_, .long x2_, .long x3_, .long x4_] (zW tA b sh mm) n (zE (some (.long (r.1))) (zW tA b sh r.2) n) := by
  unfold F_XFixed_along at h
  refine zM_of (own := "OrreryBox$Fixed") (plainFor_of_name (by decide)) rfl (Nat.le_of_ble_eq_true rfl) (fun p e s m below meth c F hr hin hH => ?_)
  refine zr_aload_n F zd_XFixed_along_0 rfl ?_
  refine zr_iconstv (v := 4) F zd_XFixed_along_1 (by decide) ?_
  refine zr_iload_n F zd_XFixed_along_2 rfl ?_
  refine zr_imul F zd_XFixed_along_3 ?_
  obtain ⟨i1, ei1, h⟩ := zoL_s h
  rw [← ei1]
  obtain ⟨le3, hs2, h⟩ := zoS_s h
  obtain ⟨hi4, h⟩ := zoI_s h
  refine zr_iald F zd_XFixed_along_4 (zW_a0 hs2) hi4 ?_
  refine zr_i2l F zd_XFixed_along_5 ?_
  refine zr_lload_n F zd_XFixed_along_6 rfl ?_
  refine zr_pcn 7 rfl ?_
  obtain ⟨x5, ex5, h⟩ := zoL_s h
  rw [← ex5]
  refine zr_callS1 F (c_XFixed_mul l D tA b _ _ x5 x2_) zd_XFixed_along_7 zs_XFixed_36 zq_XFixed_mul rfl rfl ⟨(Nat.le_of_ble_eq_true rfl), (Nat.le_of_ble_eq_true rfl)⟩ (Nat.le_of_ble_eq_true rfl) ⟨(Nat.le_of_ble_eq_true rfl), (Nat.le_of_ble_eq_true rfl)⟩ ?_
  refine zr_aload_n F zd_XFixed_along_10 rfl ?_
  refine zr_iconstv (v := 4) F zd_XFixed_along_11 (by decide) ?_
  refine zr_iload_n F zd_XFixed_along_12 rfl ?_
  refine zr_imul F zd_XFixed_along_13 ?_
  refine zr_iconstv (v := 1) F zd_XFixed_along_14 (by decide) ?_
  refine zr_iadd F zd_XFixed_along_15 ?_
  obtain ⟨i7, ei7, h⟩ := zoL_s h
  rw [← ei7]
  obtain ⟨le9, hs8, h⟩ := zoS_s h
  obtain ⟨hi10, h⟩ := zoI_s h
  refine zr_iald F zd_XFixed_along_16 (zW_a0 hs8) hi10 ?_
  refine zr_pcn 17 rfl ?_
  refine zr_i2l F zd_XFixed_along_17 ?_
  refine zr_lload F zd_XFixed_along_18 rfl ?_
  obtain ⟨x11, ex11, h⟩ := zoL_s h
  rw [← ex11]
  refine zr_callS1 F (c_XFixed_mul l D tA b _ _ x11 x3_) zd_XFixed_along_20 zs_XFixed_36 zq_XFixed_mul rfl rfl ⟨(Nat.le_of_ble_eq_true rfl), (Nat.le_of_ble_eq_true rfl)⟩ (Nat.le_of_ble_eq_true rfl) ⟨(Nat.le_of_ble_eq_true rfl), (Nat.le_of_ble_eq_true rfl)⟩ ?_
  refine zr_ladd F zd_XFixed_along_23 ?_
  refine zr_aload_n F zd_XFixed_along_24 rfl ?_
  refine zr_iconstv (v := 4) F zd_XFixed_along_25 (by decide) ?_
  refine zr_iload_n F zd_XFixed_along_26 rfl ?_
  refine zr_imul F zd_XFixed_along_27 ?_
  refine zr_pcn 28 rfl ?_
  refine zr_iconstv (v := 2) F zd_XFixed_along_28 (by decide) ?_
  refine zr_iadd F zd_XFixed_along_29 ?_
  obtain ⟨i13, ei13, h⟩ := zoL_s h
  rw [← ei13]
  obtain ⟨le15, hs14, h⟩ := zoS_s h
  obtain ⟨hi16, h⟩ := zoI_s h
  refine zr_iald F zd_XFixed_along_30 (zW_a0 hs14) hi16 ?_
  refine zr_i2l F zd_XFixed_along_31 ?_
  refine zr_lload F zd_XFixed_along_32 rfl ?_
  obtain ⟨x17, ex17, h⟩ := zoL_s h
  rw [← ex17]
  refine zr_callS1 F (c_XFixed_mul l D tA b _ _ x17 x4_) zd_XFixed_along_34 zs_XFixed_36 zq_XFixed_mul rfl rfl ⟨(Nat.le_of_ble_eq_true rfl), (Nat.le_of_ble_eq_true rfl)⟩ (Nat.le_of_ble_eq_true rfl) ⟨(Nat.le_of_ble_eq_true rfl), (Nat.le_of_ble_eq_true rfl)⟩ ?_
  refine zr_ladd F zd_XFixed_along_37 ?_
  obtain rfl := Option.some.inj h
  exact zr_lret F hr zd_XFixed_along_38 (Nat.le_of_ble_eq_true rfl) (Nat.le_of_ble_eq_true rfl) ⟨rfl, rfl, rfl⟩
abbrev zb_XFixed_multiply : ByteArray := prog_2_method_7_code
def zy_XFixed_multiply : MethodName := ⟨"OrreryBox$Fixed", "multiply", "([I[I[I)V"⟩
theorem zc_XFixed_multiply : Cond.code zy_XFixed_multiply zb_XFixed_multiply 7 none ∈ gw := gw_t 659 (by decide +kernel) rfl
theorem zq_XFixed_multiply : zy_XFixed_multiply.cls ≠ "java/lang/invoke/MethodHandle" ∧ zy_XFixed_multiply.cls ≠ "java/lang/invoke/VarHandle" ∧ (parseMethodDescriptor zy_XFixed_multiply.desc).map (fun d => d.parameters.length) = some 3 := by decide +kernel
theorem zd_XFixed_multiply_0 : decode zb_XFixed_multiply 0 = .ok (.iconst 0, 1) := by decide +kernel
theorem zd_XFixed_multiply_1 : decode zb_XFixed_multiply 1 = .ok (.istore_n 3, 1) := by decide +kernel
theorem zd_XFixed_multiply_2 : decode zb_XFixed_multiply 2 = .ok (.iload_n 3, 1) := by decide +kernel
theorem zd_XFixed_multiply_3 : decode zb_XFixed_multiply 3 = .ok (.iconst 3, 1) := by decide +kernel
theorem zd_XFixed_multiply_4 : decode zb_XFixed_multiply 4 = .ok (.if_icmp .ge 84, 3) := by decide +kernel
theorem zd_XFixed_multiply_7 : decode zb_XFixed_multiply 7 = .ok (.iconst 0, 1) := by decide +kernel
theorem zd_XFixed_multiply_8 : decode zb_XFixed_multiply 8 = .ok (.istore 4, 2) := by decide +kernel
theorem zd_XFixed_multiply_10 : decode zb_XFixed_multiply 10 = .ok (.iload 4, 2) := by decide +kernel
theorem zd_XFixed_multiply_12 : decode zb_XFixed_multiply 12 = .ok (.iconst 4, 1) := by decide +kernel
theorem zd_XFixed_multiply_13 : decode zb_XFixed_multiply 13 = .ok (.if_icmp .ge 69, 3) := by decide +kernel
theorem zd_XFixed_multiply_16 : decode zb_XFixed_multiply 16 = .ok (.aload_n 0, 1) := by decide +kernel
theorem zd_XFixed_multiply_17 : decode zb_XFixed_multiply 17 = .ok (.iload_n 3, 1) := by decide +kernel
theorem zd_XFixed_multiply_18 : decode zb_XFixed_multiply 18 = .ok (.aload_n 1, 1) := by decide +kernel
theorem zd_XFixed_multiply_19 : decode zb_XFixed_multiply 19 = .ok (.iload 4, 2) := by decide +kernel
theorem zd_XFixed_multiply_21 : decode zb_XFixed_multiply 21 = .ok (.iaload, 1) := by decide +kernel
theorem zd_XFixed_multiply_22 : decode zb_XFixed_multiply 22 = .ok (.i2l, 1) := by decide +kernel
theorem zd_XFixed_multiply_23 : decode zb_XFixed_multiply 23 = .ok (.aload_n 1, 1) := by decide +kernel
theorem zd_XFixed_multiply_24 : decode zb_XFixed_multiply 24 = .ok (.iconst 4, 1) := by decide +kernel
theorem zd_XFixed_multiply_25 : decode zb_XFixed_multiply 25 = .ok (.iload 4, 2) := by decide +kernel
theorem zd_XFixed_multiply_27 : decode zb_XFixed_multiply 27 = .ok (.iadd, 1) := by decide +kernel
theorem zd_XFixed_multiply_28 : decode zb_XFixed_multiply 28 = .ok (.iaload, 1) := by decide +kernel
theorem zd_XFixed_multiply_29 : decode zb_XFixed_multiply 29 = .ok (.i2l, 1) := by decide +kernel
theorem zd_XFixed_multiply_30 : decode zb_XFixed_multiply 30 = .ok (.aload_n 1, 1) := by decide +kernel
theorem zd_XFixed_multiply_31 : decode zb_XFixed_multiply 31 = .ok (.bipush 8, 2) := by decide +kernel
theorem zd_XFixed_multiply_33 : decode zb_XFixed_multiply 33 = .ok (.iload 4, 2) := by decide +kernel
theorem zd_XFixed_multiply_35 : decode zb_XFixed_multiply 35 = .ok (.iadd, 1) := by decide +kernel
theorem zd_XFixed_multiply_36 : decode zb_XFixed_multiply 36 = .ok (.iaload, 1) := by decide +kernel
theorem zd_XFixed_multiply_37 : decode zb_XFixed_multiply 37 = .ok (.i2l, 1) := by decide +kernel
theorem zd_XFixed_multiply_38 : decode zb_XFixed_multiply 38 = .ok (.invokestatic 39, 3) := by decide +kernel
theorem zd_XFixed_multiply_41 : decode zb_XFixed_multiply 41 = .ok (.lstore 5, 2) := by decide +kernel
theorem zd_XFixed_multiply_43 : decode zb_XFixed_multiply 43 = .ok (.aload_n 2, 1) := by decide +kernel
theorem zd_XFixed_multiply_44 : decode zb_XFixed_multiply 44 = .ok (.iconst 4, 1) := by decide +kernel
theorem zd_XFixed_multiply_45 : decode zb_XFixed_multiply 45 = .ok (.iload_n 3, 1) := by decide +kernel
theorem zd_XFixed_multiply_46 : decode zb_XFixed_multiply 46 = .ok (.imul, 1) := by decide +kernel
theorem zd_XFixed_multiply_47 : decode zb_XFixed_multiply 47 = .ok (.iload 4, 2) := by decide +kernel
theorem zd_XFixed_multiply_49 : decode zb_XFixed_multiply 49 = .ok (.iadd, 1) := by decide +kernel
theorem zd_XFixed_multiply_50 : decode zb_XFixed_multiply 50 = .ok (.iload 4, 2) := by decide +kernel
theorem zd_XFixed_multiply_52 : decode zb_XFixed_multiply 52 = .ok (.iconst 3, 1) := by decide +kernel
theorem zd_XFixed_multiply_53 : decode zb_XFixed_multiply 53 = .ok (.if_icmp .ne 17, 3) := by decide +kernel
theorem zd_XFixed_multiply_56 : decode zb_XFixed_multiply 56 = .ok (.lload 5, 2) := by decide +kernel
theorem zd_XFixed_multiply_58 : decode zb_XFixed_multiply 58 = .ok (.aload_n 0, 1) := by decide +kernel
theorem zd_XFixed_multiply_59 : decode zb_XFixed_multiply 59 = .ok (.iconst 4, 1) := by decide +kernel
theorem zd_XFixed_multiply_60 : decode zb_XFixed_multiply 60 = .ok (.iload_n 3, 1) := by decide +kernel
theorem zd_XFixed_multiply_61 : decode zb_XFixed_multiply 61 = .ok (.imul, 1) := by decide +kernel
theorem zd_XFixed_multiply_62 : decode zb_XFixed_multiply 62 = .ok (.iconst 3, 1) := by decide +kernel
theorem zd_XFixed_multiply_63 : decode zb_XFixed_multiply 63 = .ok (.iadd, 1) := by decide +kernel
theorem zd_XFixed_multiply_64 : decode zb_XFixed_multiply 64 = .ok (.iaload, 1) := by decide +kernel
theorem zd_XFixed_multiply_65 : decode zb_XFixed_multiply 65 = .ok (.i2l, 1) := by decide +kernel
theorem zd_XFixed_multiply_66 : decode zb_XFixed_multiply 66 = .ok (.ladd, 1) := by decide +kernel
theorem zd_XFixed_multiply_67 : decode zb_XFixed_multiply 67 = .ok (.goto 5, 3) := by decide +kernel
theorem zd_XFixed_multiply_70 : decode zb_XFixed_multiply 70 = .ok (.lload 5, 2) := by decide +kernel
theorem zd_XFixed_multiply_72 : decode zb_XFixed_multiply 72 = .ok (.invokestatic 43, 3) := by decide +kernel
theorem zd_XFixed_multiply_75 : decode zb_XFixed_multiply 75 = .ok (.iastore, 1) := by decide +kernel
theorem zd_XFixed_multiply_76 : decode zb_XFixed_multiply 76 = .ok (.iinc 4 1, 3) := by decide +kernel
theorem zd_XFixed_multiply_79 : decode zb_XFixed_multiply 79 = .ok (.goto (-69), 3) := by decide +kernel
theorem zd_XFixed_multiply_82 : decode zb_XFixed_multiply 82 = .ok (.iinc 3 1, 3) := by decide +kernel
theorem zd_XFixed_multiply_85 : decode zb_XFixed_multiply 85 = .ok (.goto (-83), 3) := by decide +kernel
theorem zd_XFixed_multiply_88 : decode zb_XFixed_multiply 88 = .ok (.return_, 1) := by decide +kernel
theorem zw_660 : (Jvm.Cond.methodLink "OrreryBox$Fixed" (39 : Nat) ({ cls := "OrreryBox$Fixed", name := "along", desc := "([IIJJJ)J" } : Jvm.MethodName)) ∈ gw := gw_t 660 (by decide +kernel) rfl
theorem zs_XFixed_39 : zwS "OrreryBox$Fixed" 39 zy_XFixed_along zb_XFixed_along 8 (some .long) := ⟨zw_660, zw_661, zw_27, zc_XFixed_along⟩
theorem zw_663 : (Jvm.Cond.methodLink "OrreryBox$Fixed" (43 : Nat) ({ cls := "OrreryBox$Fixed", name := "bound", desc := "(J)I" } : Jvm.MethodName)) ∈ gw := gw_t 663 (by decide +kernel) rfl
theorem zs_XFixed_43 : zwS "OrreryBox$Fixed" 43 zy_XFixed_bound zb_XFixed_bound 2 (some .int) := ⟨zw_663, zw_647, zw_27, zc_XFixed_bound⟩
def L_XFixed_multiply_10 (sh : zSh) (fuel : Nat) (v0 : Nat) (v1 : Nat) (v2 : Nat) (v3 : Int32) (v4 : Int32) (mm : zMem) : Option (Nat × Nat × Nat × Int32 × Int32 × zMem) := match fuel with
  | 0 => none
  | fu + 1 => (if 4 ≤ v4 then some (v0, v1, v2, v3, v4, mm) else zoS (sh v1) 100 (fun le4 => if (v4 : Int32) < 0 ∨ le4 ≤ (v4 : Int32).toNatClampNeg then none else zoL (4 + v4) (fun i6 => zoS (sh v1) 100 (fun le8 => if (i6 : Int32) < 0 ∨ le8 ≤ (i6 : Int32).toNatClampNeg then none else zoL (8 + v4) (fun i10 => zoS (sh v1) 100 (fun le12 => if (i10 : Int32) < 0 ∨ le12 ≤ (i10 : Int32).toNatClampNeg then none else zoL (((mm.1 v1 (v4 : Int32).toNatClampNeg) : Int32).toInt64) (fun x14 => zoL (((mm.1 v1 (i6 : Int32).toNatClampNeg) : Int32).toInt64) (fun x15 => zoL (((mm.1 v1 (i10 : Int32).toNatClampNeg) : Int32).toInt64) (fun x16 => Option.bind (F_XFixed_along sh mm v0 v3 x14 x15 x16) (fun p17 => (if v4 = 3 then zoL ((4 * v3) + 3) (fun i26 => zoS (sh v0) 100 (fun le28 => if (i26 : Int32) < 0 ∨ le28 ≤ (i26 : Int32).toNatClampNeg then none else zoL (p17.1 + ((((p17.2).1 v0 (i26 : Int32).toNatClampNeg) : Int32).toInt64)) (fun x30 => zoL (zx_bound x30) (fun x32 => zoL ((4 * v3) + v4) (fun i33 => zoS (sh v2) 100 (fun le35 => if (i33 : Int32) < 0 ∨ le35 ≤ (i33 : Int32).toNatClampNeg then none else zoL (mI (p17.2) v2 (i33 : Int32).toNatClampNeg x32) (fun mm37 => L_XFixed_multiply_10 sh fu v0 v1 v2 v3 (v4 + 1) mm37))))))) else zoL (zx_bound (p17.1)) (fun x20 => zoL ((4 * v3) + v4) (fun i21 => zoS (sh v2) 100 (fun le23 => if (i21 : Int32) < 0 ∨ le23 ≤ (i21 : Int32).toNatClampNeg then none else zoL (mI (p17.2) v2 (i21 : Int32).toNatClampNeg x20) (fun mm25 => L_XFixed_multiply_10 sh fu v0 v1 v2 v3 (v4 + 1) mm25)))))))))))))))
set_option maxHeartbeats 4000000 in
set_option maxRecDepth 100000 in
theorem lp_XFixed_multiply_10 {p : Program} {l : Launch} {e : Env} {s : State} {m : MethodId} {args : Array Value} {below : List Frame} {meth : Method} {c : Code} {D : va_G} {tA : Nat → ClassId} {b n : Nat} {post : Option Value → zV → Nat → Prop} {sh : zSh} (F : zF p s m args meth c zb_XFixed_multiply 7 "OrreryBox$Fixed" D tA b) : ∀ (fuel : Nat) (v0 : Nat) (v1 : Nat) (v2 : Nat) (v3 : Int32) (v4 : Int32) (mm : zMem) (r : Nat × Nat × Nat × Int32 × Int32 × zMem), L_XFixed_multiply_10 sh fuel v0 v1 v2 v3 v4 mm = some r → (Z p l e { frames := 2, cells := 0, slots := 0, locals := 50 } s m args below meth c D b 7 (MQ below (zQ D b post) args s 0 0 (fun q => b ≤ q)) (zW tA b sh r.2.2.2.2.2) n 0 0 82 [(0, .ref (b + (r.1))), (1, .ref (b + (r.2.1))), (2, .ref (b + (r.2.2.1))), (3, .int (r.2.2.2.1)), (4, .int (r.2.2.2.2.1))] []) → Z p l e { frames := 2, cells := 0, slots := 0, locals := 50 } s m args below meth c D b 7 (MQ below (zQ D b post) args s 0 0 (fun q => b ≤ q)) (zW tA b sh mm) n 0 0 10 [(0, .ref (b + v0)), (1, .ref (b + v1)), (2, .ref (b + v2)), (3, .int v3), (4, .int v4)] [] := by
  intro fuel
  induction fuel with
  | zero =>
    intro v0 v1 v2 v3 v4 mm r h
    cases h
  | succ fu ih =>
    intro v0 v1 v2 v3 v4 mm r h hx0
    rw [L_XFixed_multiply_10] at h
    refine zr_pcn 10 rfl ?_
    refine zr_iload F zd_XFixed_multiply_10 rfl ?_
    refine zr_iconstv (v := 4) F zd_XFixed_multiply_12 (by decide) ?_
    refine zr_icmp_ge F 82 zd_XFixed_multiply_13 (by decide) (fun hb2 => ?_) (fun hb2 => ?_)
    ·
      rw [if_pos hb2] at h
      obtain rfl := Option.some.inj h
      refine zr_loc (L' := [(0, .ref (b + v0)), (1, .ref (b + v1)), (2, .ref (b + v2)), (3, .int v3), (4, .int v4)]) ⟨rfl, rfl, rfl, rfl, rfl, trivial⟩ ?_
      exact hx0 
    ·
      rw [if_neg hb2] at h
      refine zr_aload_n F zd_XFixed_multiply_16 rfl ?_
      refine zr_iload_n F zd_XFixed_multiply_17 rfl ?_
      refine zr_aload_n F zd_XFixed_multiply_18 rfl ?_
      refine zr_iload F zd_XFixed_multiply_19 rfl ?_
      obtain ⟨le4, hs3, h⟩ := zoS_s h
      obtain ⟨hi5, h⟩ := zoI_s h
      refine zr_iald F zd_XFixed_multiply_21 (zW_a0 hs3) hi5 ?_
      refine zr_pcn 22 rfl ?_
      refine zr_i2l F zd_XFixed_multiply_22 ?_
      refine zr_aload_n F zd_XFixed_multiply_23 rfl ?_
      refine zr_iconstv (v := 4) F zd_XFixed_multiply_24 (by decide) ?_
      refine zr_iload F zd_XFixed_multiply_25 rfl ?_
      refine zr_iadd F zd_XFixed_multiply_27 ?_
      obtain ⟨i6, ei6, h⟩ := zoL_s h
      rw [← ei6]
      obtain ⟨le8, hs7, h⟩ := zoS_s h
      obtain ⟨hi9, h⟩ := zoI_s h
      refine zr_iald F zd_XFixed_multiply_28 (zW_a0 hs7) hi9 ?_
      refine zr_i2l F zd_XFixed_multiply_29 ?_
      refine zr_aload_n F zd_XFixed_multiply_30 rfl ?_
      refine zr_pcn 31 rfl ?_
      refine zr_bipushv (v := 8) F zd_XFixed_multiply_31 (by decide) ?_
      refine zr_iload F zd_XFixed_multiply_33 rfl ?_
      refine zr_iadd F zd_XFixed_multiply_35 ?_
      obtain ⟨i10, ei10, h⟩ := zoL_s h
      rw [← ei10]
      obtain ⟨le12, hs11, h⟩ := zoS_s h
      obtain ⟨hi13, h⟩ := zoI_s h
      refine zr_iald F zd_XFixed_multiply_36 (zW_a0 hs11) hi13 ?_
      refine zr_i2l F zd_XFixed_multiply_37 ?_
      obtain ⟨x14, ex14, h⟩ := zoL_s h
      rw [← ex14]
      obtain ⟨x15, ex15, h⟩ := zoL_s h
      rw [← ex15]
      obtain ⟨x16, ex16, h⟩ := zoL_s h
      rw [← ex16]
      obtain ⟨p17, ep17, h⟩ := zoB_s h
      refine zr_callS1 F (k_XFixed_along l D tA b sh _ ep17) zd_XFixed_multiply_38 zs_XFixed_39 zq_XFixed_along rfl rfl ⟨(Nat.le_of_ble_eq_true rfl), (Nat.le_of_ble_eq_true rfl)⟩ (Nat.le_of_ble_eq_true rfl) ⟨(Nat.le_of_ble_eq_true rfl), (Nat.le_of_ble_eq_true rfl)⟩ ?_
      refine zr_lstore F zd_XFixed_multiply_41 (by decide) ?_
      refine zr_aload_n F zd_XFixed_multiply_43 rfl ?_
      refine zr_pcn 44 rfl ?_
      refine zr_iconstv (v := 4) F zd_XFixed_multiply_44 (by decide) ?_
      refine zr_iload_n F zd_XFixed_multiply_45 rfl ?_
      refine zr_imul F zd_XFixed_multiply_46 ?_
      refine zr_iload F zd_XFixed_multiply_47 rfl ?_
      refine zr_iadd F zd_XFixed_multiply_49 ?_
      refine zr_iload F zd_XFixed_multiply_50 rfl ?_
      refine zr_iconstv (v := 3) F zd_XFixed_multiply_52 (by decide) ?_
      refine zr_icmp_ne F 70 zd_XFixed_multiply_53 (by decide) (fun hb18 => ?_) (fun hb18 => ?_)
      ·
        rw [if_neg hb18] at h
        refine zr_pcn 70 rfl ?_
        refine zr_lload F zd_XFixed_multiply_70 rfl ?_
        refine zr_callS1 F (c_XFixed_bound l D tA b _ _ (p17.1)) zd_XFixed_multiply_72 zs_XFixed_43 zq_XFixed_bound rfl rfl ⟨(Nat.le_of_ble_eq_true rfl), (Nat.le_of_ble_eq_true rfl)⟩ (Nat.le_of_ble_eq_true rfl) ⟨(Nat.le_of_ble_eq_true rfl), (Nat.le_of_ble_eq_true rfl)⟩ ?_
        obtain ⟨x20, ex20, h⟩ := zoL_s h
        rw [← ex20]
        obtain ⟨i21, ei21, h⟩ := zoL_s h
        rw [← ei21]
        obtain ⟨le23, hs22, h⟩ := zoS_s h
        obtain ⟨hi24, h⟩ := zoI_s h
        refine zr_iast F zd_XFixed_multiply_75 (zW_a0 hs22) hi24 ?_
        obtain ⟨mm25, emm25, h⟩ := zoL_s h
        refine zr_norm (zW tA b sh mm25) _ (by rw [emm25]; exact zW_s0 hs22) rfl ?_
        refine zr_iinc (v := (v4 + 1)) F zd_XFixed_multiply_76 rfl rfl (by decide) ?_
        refine zr_goto F 10 zd_XFixed_multiply_79 (by decide) ?_
        refine zr_loc (L' := [(0, .ref (b + v0)), (1, .ref (b + v1)), (2, .ref (b + v2)), (3, .int v3), (4, .int (v4 + 1))]) ⟨rfl, rfl, rfl, rfl, rfl, trivial⟩ ?_
        exact ih _ _ _ _ _ _ _ h hx0
      ·
        rw [if_pos hb18] at h
        refine zr_lload F zd_XFixed_multiply_56 rfl ?_
        refine zr_aload_n F zd_XFixed_multiply_58 rfl ?_
        refine zr_iconstv (v := 4) F zd_XFixed_multiply_59 (by decide) ?_
        refine zr_pcn 60 rfl ?_
        refine zr_iload_n F zd_XFixed_multiply_60 rfl ?_
        refine zr_imul F zd_XFixed_multiply_61 ?_
        refine zr_iconstv (v := 3) F zd_XFixed_multiply_62 (by decide) ?_
        refine zr_iadd F zd_XFixed_multiply_63 ?_
        obtain ⟨i26, ei26, h⟩ := zoL_s h
        rw [← ei26]
        obtain ⟨le28, hs27, h⟩ := zoS_s h
        obtain ⟨hi29, h⟩ := zoI_s h
        refine zr_iald F zd_XFixed_multiply_64 (zW_a0 hs27) hi29 ?_
        refine zr_i2l F zd_XFixed_multiply_65 ?_
        refine zr_ladd F zd_XFixed_multiply_66 ?_
        refine zr_goto F 72 zd_XFixed_multiply_67 (by decide) ?_
        refine zr_pcn 72 rfl ?_
        obtain ⟨x30, ex30, h⟩ := zoL_s h
        rw [← ex30]
        refine zr_callS1 F (c_XFixed_bound l D tA b _ _ x30) zd_XFixed_multiply_72 zs_XFixed_43 zq_XFixed_bound rfl rfl ⟨(Nat.le_of_ble_eq_true rfl), (Nat.le_of_ble_eq_true rfl)⟩ (Nat.le_of_ble_eq_true rfl) ⟨(Nat.le_of_ble_eq_true rfl), (Nat.le_of_ble_eq_true rfl)⟩ ?_
        obtain ⟨x32, ex32, h⟩ := zoL_s h
        rw [← ex32]
        obtain ⟨i33, ei33, h⟩ := zoL_s h
        rw [← ei33]
        obtain ⟨le35, hs34, h⟩ := zoS_s h
        obtain ⟨hi36, h⟩ := zoI_s h
        refine zr_iast F zd_XFixed_multiply_75 (zW_a0 hs34) hi36 ?_
        obtain ⟨mm37, emm37, h⟩ := zoL_s h
        refine zr_norm (zW tA b sh mm37) _ (by rw [emm37]; exact zW_s0 hs34) rfl ?_
        refine zr_iinc (v := (v4 + 1)) F zd_XFixed_multiply_76 rfl rfl (by decide) ?_
        refine zr_goto F 10 zd_XFixed_multiply_79 (by decide) ?_
        refine zr_loc (L' := [(0, .ref (b + v0)), (1, .ref (b + v1)), (2, .ref (b + v2)), (3, .int v3), (4, .int (v4 + 1))]) ⟨rfl, rfl, rfl, rfl, rfl, trivial⟩ ?_
        exact ih _ _ _ _ _ _ _ h hx0
def L_XFixed_multiply_2 (sh : zSh) (fuel : Nat) (v0 : Nat) (v1 : Nat) (v2 : Nat) (v3 : Int32) (mm : zMem) : Option (Nat × Nat × Nat × Int32 × zMem) := match fuel with
  | 0 => none
  | fu + 1 => (if 3 ≤ v3 then some (v0, v1, v2, v3, mm) else Option.bind (L_XFixed_multiply_10 sh zfuel v0 v1 v2 v3 0 mm) (fun q38 => L_XFixed_multiply_2 sh fu (q38.1) (q38.2.1) (q38.2.2.1) (q38.2.2.2.1 + 1) (q38.2.2.2.2.2)))
set_option maxHeartbeats 4000000 in
set_option maxRecDepth 100000 in
theorem lp_XFixed_multiply_2 {p : Program} {l : Launch} {e : Env} {s : State} {m : MethodId} {args : Array Value} {below : List Frame} {meth : Method} {c : Code} {D : va_G} {tA : Nat → ClassId} {b n : Nat} {post : Option Value → zV → Nat → Prop} {sh : zSh} (F : zF p s m args meth c zb_XFixed_multiply 7 "OrreryBox$Fixed" D tA b) : ∀ (fuel : Nat) (v0 : Nat) (v1 : Nat) (v2 : Nat) (v3 : Int32) (mm : zMem) (r : Nat × Nat × Nat × Int32 × zMem), L_XFixed_multiply_2 sh fuel v0 v1 v2 v3 mm = some r → (Z p l e { frames := 2, cells := 0, slots := 0, locals := 50 } s m args below meth c D b 7 (MQ below (zQ D b post) args s 0 0 (fun q => b ≤ q)) (zW tA b sh r.2.2.2.2) n 0 0 88 [(0, .ref (b + (r.1))), (1, .ref (b + (r.2.1))), (2, .ref (b + (r.2.2.1))), (3, .int (r.2.2.2.1))] []) → Z p l e { frames := 2, cells := 0, slots := 0, locals := 50 } s m args below meth c D b 7 (MQ below (zQ D b post) args s 0 0 (fun q => b ≤ q)) (zW tA b sh mm) n 0 0 2 [(0, .ref (b + v0)), (1, .ref (b + v1)), (2, .ref (b + v2)), (3, .int v3)] [] := by
  intro fuel
  induction fuel with
  | zero =>
    intro v0 v1 v2 v3 mm r h
    cases h
  | succ fu ih =>
    intro v0 v1 v2 v3 mm r h hx0
    rw [L_XFixed_multiply_2] at h
    refine zr_iload_n F zd_XFixed_multiply_2 rfl ?_
    refine zr_iconstv (v := 3) F zd_XFixed_multiply_3 (by decide) ?_
    refine zr_icmp_ge F 88 zd_XFixed_multiply_4 (by decide) (fun hb1 => ?_) (fun hb1 => ?_)
    ·
      rw [if_pos hb1] at h
      obtain rfl := Option.some.inj h
      refine zr_loc (L' := [(0, .ref (b + v0)), (1, .ref (b + v1)), (2, .ref (b + v2)), (3, .int v3)]) ⟨rfl, rfl, rfl, rfl, trivial⟩ ?_
      exact hx0 
    ·
      rw [if_neg hb1] at h
      refine zr_iconstv (v := 0) F zd_XFixed_multiply_7 (by decide) ?_
      refine zr_istore F zd_XFixed_multiply_8 (by decide) ?_
      obtain ⟨q38, eq38, h⟩ := zoB_s h
      refine zr_loc (L' := [(0, .ref (b + v0)), (1, .ref (b + v1)), (2, .ref (b + v2)), (3, .int v3), (4, .int 0)]) ⟨rfl, rfl, rfl, rfl, rfl, trivial⟩ ?_
      refine lp_XFixed_multiply_10 F _ _ _ _ _ _ _ _ eq38 ?_
      ·
        refine zr_iinc (v := (q38.2.2.2.1 + 1)) F zd_XFixed_multiply_82 rfl rfl (by decide) ?_
        refine zr_goto F 2 zd_XFixed_multiply_85 (by decide) ?_
        refine zr_loc (L' := [(0, .ref (b + (q38.1))), (1, .ref (b + (q38.2.1))), (2, .ref (b + (q38.2.2.1))), (3, .int (q38.2.2.2.1 + 1))]) ⟨rfl, rfl, rfl, rfl, trivial⟩ ?_
        exact ih _ _ _ _ _ _ h hx0
def F_XFixed_multiply (sh : zSh) (mm : zMem) (x0_ : Nat) (x1_ : Nat) (x2_ : Nat) : Option zMem := Option.bind (L_XFixed_multiply_2 sh zfuel x0_ x1_ x2_ 0 mm) (fun q39 => some (q39.2.2.2.2))
set_option maxHeartbeats 4000000 in
set_option maxRecDepth 100000 in
theorem k_XFixed_multiply (l : Launch) (D : va_G) (tA : Nat → ClassId) (b : Nat) (sh : zSh) (n : Nat) {mm : zMem} {x0_ : Nat} {x1_ : Nat} {x2_ : Nat} {r : zMem} (h : F_XFixed_multiply sh mm x0_ x1_ x2_ = some r) : zM l D tA b zy_XFixed_multiply zb_XFixed_multiply 7 none 2 50 0 0 [.ref (b + x0_), .ref (b + x1_), .ref (b + x2_)] (zW tA b sh mm) n (zE none (zW tA b sh r) n) := by
  unfold F_XFixed_multiply at h
  refine zM_of (own := "OrreryBox$Fixed") (plainFor_of_name (by decide)) rfl (Nat.le_of_ble_eq_true rfl) (fun p e s m below meth c F hr hin hH => ?_)
  refine zr_iconstv (v := 0) F zd_XFixed_multiply_0 (by decide) ?_
  refine zr_istore_n F zd_XFixed_multiply_1 (by decide) ?_
  obtain ⟨q39, eq39, h⟩ := zoB_s h
  refine zr_loc (L' := [(0, .ref (b + x0_)), (1, .ref (b + x1_)), (2, .ref (b + x2_)), (3, .int 0)]) ⟨rfl, rfl, rfl, rfl, trivial⟩ ?_
  refine lp_XFixed_multiply_2 F _ _ _ _ _ _ _ eq39 ?_
  ·
    obtain rfl := Option.some.inj h
    exact zr_vret F hr zd_XFixed_multiply_88 (Nat.le_of_ble_eq_true rfl) (Nat.le_of_ble_eq_true rfl) ⟨rfl, rfl, rfl⟩
def F_XFixed_roll (sh : zSh) (mm : zMem) (x0_ : Nat) (x1_ : Int32) (x2_ : Int64) (x3_ : Int64) (x4_ : Int32) (x5_ : Int32) : Option zMem := zoL ((((zx_mul x2_ ((x5_ : Int32).toInt64)) + (zx_mul x3_ ((x4_ : Int32).toInt64))) : Int64).toInt32) (fun x3 => zoS (sh x0_) 100 (fun le5 => if (x1_ : Int32) < 0 ∨ le5 ≤ (x1_ : Int32).toNatClampNeg then none else zoL (mI mm x0_ (x1_ : Int32).toNatClampNeg x3) (fun mm7 => zoL ((((zx_mul x2_ (((-x4_) : Int32).toInt64)) + (zx_mul x3_ ((x5_ : Int32).toInt64))) : Int64).toInt32) (fun x10 => zoL (x1_ + 1) (fun i11 => zoS (sh x0_) 100 (fun le13 => if (i11 : Int32) < 0 ∨ le13 ≤ (i11 : Int32).toNatClampNeg then none else zoL (mI mm7 x0_ (i11 : Int32).toNatClampNeg x10) (fun mm15 => some mm15)))))))
set_option maxHeartbeats 4000000 in
set_option maxRecDepth 100000 in
theorem k_XFixed_roll (l : Launch) (D : va_G) (tA : Nat → ClassId) (b : Nat) (sh : zSh) (n : Nat) {mm : zMem} {x0_ : Nat} {x1_ : Int32} {x2_ : Int64} {x3_ : Int64} {x4_ : Int32} {x5_ : Int32} {r : zMem} (h : F_XFixed_roll sh mm x0_ x1_ x2_ x3_ x4_ x5_ = some r) : zM l D tA b zy_XFixed_roll zb_XFixed_roll 8 none 1 23 0 0 [.ref (b + x0_), .int x1_, .long x2_, .long x3_, .int x4_, .int x5_] (zW tA b sh mm) n (zE none (zW tA b sh r) n) := by
  unfold F_XFixed_roll at h
  refine zM_of (own := "OrreryBox$Fixed") (plainFor_of_name (by decide)) rfl (Nat.le_of_ble_eq_true rfl) (fun p e s m below meth c F hr hin hH => ?_)
  refine zr_aload_n F zd_XFixed_roll_0 rfl ?_
  refine zr_iload_n F zd_XFixed_roll_1 rfl ?_
  refine zr_lload_n F zd_XFixed_roll_2 rfl ?_
  refine zr_iload F zd_XFixed_roll_3 rfl ?_
  refine zr_i2l F zd_XFixed_roll_5 ?_
  refine zr_callS1 F (c_XFixed_mul l D tA b _ _ x2_ ((x5_ : Int32).toInt64)) zd_XFixed_roll_6 zs_XFixed_36 zq_XFixed_mul rfl rfl ⟨(Nat.le_of_ble_eq_true rfl), (Nat.le_of_ble_eq_true rfl)⟩ (Nat.le_of_ble_eq_true rfl) ⟨(Nat.le_of_ble_eq_true rfl), (Nat.le_of_ble_eq_true rfl)⟩ ?_
  refine zr_lload F zd_XFixed_roll_9 rfl ?_
  refine zr_pcn 11 rfl ?_
  refine zr_iload F zd_XFixed_roll_11 rfl ?_
  refine zr_i2l F zd_XFixed_roll_13 ?_
  refine zr_callS1 F (c_XFixed_mul l D tA b _ _ x3_ ((x4_ : Int32).toInt64)) zd_XFixed_roll_14 zs_XFixed_36 zq_XFixed_mul rfl rfl ⟨(Nat.le_of_ble_eq_true rfl), (Nat.le_of_ble_eq_true rfl)⟩ (Nat.le_of_ble_eq_true rfl) ⟨(Nat.le_of_ble_eq_true rfl), (Nat.le_of_ble_eq_true rfl)⟩ ?_
  refine zr_ladd F zd_XFixed_roll_17 ?_
  refine zr_l2i F zd_XFixed_roll_18 ?_
  obtain ⟨x3, ex3, h⟩ := zoL_s h
  rw [← ex3]
  obtain ⟨le5, hs4, h⟩ := zoS_s h
  obtain ⟨hi6, h⟩ := zoI_s h
  refine zr_iast F zd_XFixed_roll_19 (zW_a0 hs4) hi6 ?_
  obtain ⟨mm7, emm7, h⟩ := zoL_s h
  refine zr_norm (zW tA b sh mm7) _ (by rw [emm7]; exact zW_s0 hs4) rfl ?_
  refine zr_aload_n F zd_XFixed_roll_20 rfl ?_
  refine zr_iload_n F zd_XFixed_roll_21 rfl ?_
  refine zr_pcn 22 rfl ?_
  refine zr_iconstv (v := 1) F zd_XFixed_roll_22 (by decide) ?_
  refine zr_iadd F zd_XFixed_roll_23 ?_
  refine zr_lload_n F zd_XFixed_roll_24 rfl ?_
  refine zr_iload F zd_XFixed_roll_25 rfl ?_
  refine zr_ineg F zd_XFixed_roll_27 ?_
  refine zr_i2l F zd_XFixed_roll_28 ?_
  refine zr_callS1 F (c_XFixed_mul l D tA b _ _ x2_ (((-x4_) : Int32).toInt64)) zd_XFixed_roll_29 zs_XFixed_36 zq_XFixed_mul rfl rfl ⟨(Nat.le_of_ble_eq_true rfl), (Nat.le_of_ble_eq_true rfl)⟩ (Nat.le_of_ble_eq_true rfl) ⟨(Nat.le_of_ble_eq_true rfl), (Nat.le_of_ble_eq_true rfl)⟩ ?_
  refine zr_lload F zd_XFixed_roll_32 rfl ?_
  refine zr_pcn 34 rfl ?_
  refine zr_iload F zd_XFixed_roll_34 rfl ?_
  refine zr_i2l F zd_XFixed_roll_36 ?_
  refine zr_callS1 F (c_XFixed_mul l D tA b _ _ x3_ ((x5_ : Int32).toInt64)) zd_XFixed_roll_37 zs_XFixed_36 zq_XFixed_mul rfl rfl ⟨(Nat.le_of_ble_eq_true rfl), (Nat.le_of_ble_eq_true rfl)⟩ (Nat.le_of_ble_eq_true rfl) ⟨(Nat.le_of_ble_eq_true rfl), (Nat.le_of_ble_eq_true rfl)⟩ ?_
  refine zr_ladd F zd_XFixed_roll_40 ?_
  refine zr_l2i F zd_XFixed_roll_41 ?_
  obtain ⟨x10, ex10, h⟩ := zoL_s h
  rw [← ex10]
  obtain ⟨i11, ei11, h⟩ := zoL_s h
  rw [← ei11]
  obtain ⟨le13, hs12, h⟩ := zoS_s h
  obtain ⟨hi14, h⟩ := zoI_s h
  refine zr_iast F zd_XFixed_roll_42 (zW_a0 hs12) hi14 ?_
  obtain ⟨mm15, emm15, h⟩ := zoL_s h
  refine zr_norm (zW tA b sh mm15) _ (by rw [emm15]; exact zW_s0 hs12) rfl ?_
  obtain rfl := Option.some.inj h
  exact zr_vret F hr zd_XFixed_roll_43 (Nat.le_of_ble_eq_true rfl) (Nat.le_of_ble_eq_true rfl) ⟨rfl, rfl, rfl⟩
abbrev zb_XPacker_makeRaw : ByteArray := prog_5_method_3_code
def zy_XPacker_makeRaw : MethodName := ⟨"OrreryBox$Packer", "makeRaw", "([II)V"⟩
theorem zc_XPacker_makeRaw : Cond.code zy_XPacker_makeRaw zb_XPacker_makeRaw 4 none ∈ gw := gw_t 911 (by decide +kernel) rfl
theorem zq_XPacker_makeRaw : zy_XPacker_makeRaw.cls ≠ "java/lang/invoke/MethodHandle" ∧ zy_XPacker_makeRaw.cls ≠ "java/lang/invoke/VarHandle" ∧ (parseMethodDescriptor zy_XPacker_makeRaw.desc).map (fun d => d.parameters.length) = some 2 := by decide +kernel
theorem zd_XPacker_makeRaw_0 : decode zb_XPacker_makeRaw 0 = .ok (.iconst 0, 1) := by decide +kernel
theorem zd_XPacker_makeRaw_1 : decode zb_XPacker_makeRaw 1 = .ok (.istore_n 3, 1) := by decide +kernel
theorem zd_XPacker_makeRaw_2 : decode zb_XPacker_makeRaw 2 = .ok (.iload_n 3, 1) := by decide +kernel
theorem zd_XPacker_makeRaw_3 : decode zb_XPacker_makeRaw 3 = .ok (.iload_n 2, 1) := by decide +kernel
theorem zd_XPacker_makeRaw_4 : decode zb_XPacker_makeRaw 4 = .ok (.if_icmp .ge 64, 3) := by decide +kernel
theorem zd_XPacker_makeRaw_7 : decode zb_XPacker_makeRaw 7 = .ok (.aload_n 0, 1) := by decide +kernel
theorem zd_XPacker_makeRaw_8 : decode zb_XPacker_makeRaw 8 = .ok (.getfield 15, 3) := by decide +kernel
theorem zd_XPacker_makeRaw_11 : decode zb_XPacker_makeRaw 11 = .ok (.iconst 3, 1) := by decide +kernel
theorem zd_XPacker_makeRaw_12 : decode zb_XPacker_makeRaw 12 = .ok (.iload_n 3, 1) := by decide +kernel
theorem zd_XPacker_makeRaw_13 : decode zb_XPacker_makeRaw 13 = .ok (.imul, 1) := by decide +kernel
theorem zd_XPacker_makeRaw_14 : decode zb_XPacker_makeRaw 14 = .ok (.aload_n 1, 1) := by decide +kernel
theorem zd_XPacker_makeRaw_15 : decode zb_XPacker_makeRaw 15 = .ok (.iload_n 3, 1) := by decide +kernel
theorem zd_XPacker_makeRaw_16 : decode zb_XPacker_makeRaw 16 = .ok (.iaload, 1) := by decide +kernel
theorem zd_XPacker_makeRaw_17 : decode zb_XPacker_makeRaw 17 = .ok (.bipush 16, 2) := by decide +kernel
theorem zd_XPacker_makeRaw_19 : decode zb_XPacker_makeRaw 19 = .ok (.ishr, 1) := by decide +kernel
theorem zd_XPacker_makeRaw_20 : decode zb_XPacker_makeRaw 20 = .ok (.sipush 255, 3) := by decide +kernel
theorem zd_XPacker_makeRaw_23 : decode zb_XPacker_makeRaw 23 = .ok (.iand, 1) := by decide +kernel
theorem zd_XPacker_makeRaw_24 : decode zb_XPacker_makeRaw 24 = .ok (.iastore, 1) := by decide +kernel
theorem zd_XPacker_makeRaw_25 : decode zb_XPacker_makeRaw 25 = .ok (.aload_n 0, 1) := by decide +kernel
theorem zd_XPacker_makeRaw_26 : decode zb_XPacker_makeRaw 26 = .ok (.getfield 15, 3) := by decide +kernel
theorem zd_XPacker_makeRaw_29 : decode zb_XPacker_makeRaw 29 = .ok (.iconst 3, 1) := by decide +kernel
theorem zd_XPacker_makeRaw_30 : decode zb_XPacker_makeRaw 30 = .ok (.iload_n 3, 1) := by decide +kernel
theorem zd_XPacker_makeRaw_31 : decode zb_XPacker_makeRaw 31 = .ok (.imul, 1) := by decide +kernel
theorem zd_XPacker_makeRaw_32 : decode zb_XPacker_makeRaw 32 = .ok (.iconst 1, 1) := by decide +kernel
theorem zd_XPacker_makeRaw_33 : decode zb_XPacker_makeRaw 33 = .ok (.iadd, 1) := by decide +kernel
theorem zd_XPacker_makeRaw_34 : decode zb_XPacker_makeRaw 34 = .ok (.aload_n 1, 1) := by decide +kernel
theorem zd_XPacker_makeRaw_35 : decode zb_XPacker_makeRaw 35 = .ok (.iload_n 3, 1) := by decide +kernel
theorem zd_XPacker_makeRaw_36 : decode zb_XPacker_makeRaw 36 = .ok (.iaload, 1) := by decide +kernel
theorem zd_XPacker_makeRaw_37 : decode zb_XPacker_makeRaw 37 = .ok (.bipush 8, 2) := by decide +kernel
theorem zd_XPacker_makeRaw_39 : decode zb_XPacker_makeRaw 39 = .ok (.ishr, 1) := by decide +kernel
theorem zd_XPacker_makeRaw_40 : decode zb_XPacker_makeRaw 40 = .ok (.sipush 255, 3) := by decide +kernel
theorem zd_XPacker_makeRaw_43 : decode zb_XPacker_makeRaw 43 = .ok (.iand, 1) := by decide +kernel
theorem zd_XPacker_makeRaw_44 : decode zb_XPacker_makeRaw 44 = .ok (.iastore, 1) := by decide +kernel
theorem zd_XPacker_makeRaw_45 : decode zb_XPacker_makeRaw 45 = .ok (.aload_n 0, 1) := by decide +kernel
theorem zd_XPacker_makeRaw_46 : decode zb_XPacker_makeRaw 46 = .ok (.getfield 15, 3) := by decide +kernel
theorem zd_XPacker_makeRaw_49 : decode zb_XPacker_makeRaw 49 = .ok (.iconst 3, 1) := by decide +kernel
theorem zd_XPacker_makeRaw_50 : decode zb_XPacker_makeRaw 50 = .ok (.iload_n 3, 1) := by decide +kernel
theorem zd_XPacker_makeRaw_51 : decode zb_XPacker_makeRaw 51 = .ok (.imul, 1) := by decide +kernel
theorem zd_XPacker_makeRaw_52 : decode zb_XPacker_makeRaw 52 = .ok (.iconst 2, 1) := by decide +kernel
theorem zd_XPacker_makeRaw_53 : decode zb_XPacker_makeRaw 53 = .ok (.iadd, 1) := by decide +kernel
theorem zd_XPacker_makeRaw_54 : decode zb_XPacker_makeRaw 54 = .ok (.aload_n 1, 1) := by decide +kernel
theorem zd_XPacker_makeRaw_55 : decode zb_XPacker_makeRaw 55 = .ok (.iload_n 3, 1) := by decide +kernel
theorem zd_XPacker_makeRaw_56 : decode zb_XPacker_makeRaw 56 = .ok (.iaload, 1) := by decide +kernel
theorem zd_XPacker_makeRaw_57 : decode zb_XPacker_makeRaw 57 = .ok (.sipush 255, 3) := by decide +kernel
theorem zd_XPacker_makeRaw_60 : decode zb_XPacker_makeRaw 60 = .ok (.iand, 1) := by decide +kernel
theorem zd_XPacker_makeRaw_61 : decode zb_XPacker_makeRaw 61 = .ok (.iastore, 1) := by decide +kernel
theorem zd_XPacker_makeRaw_62 : decode zb_XPacker_makeRaw 62 = .ok (.iinc 3 1, 3) := by decide +kernel
theorem zd_XPacker_makeRaw_65 : decode zb_XPacker_makeRaw 65 = .ok (.goto (-63), 3) := by decide +kernel
theorem zd_XPacker_makeRaw_68 : decode zb_XPacker_makeRaw 68 = .ok (.return_, 1) := by decide +kernel
def L_XPacker_makeRaw_2 (sh : zSh) (fuel : Nat) (v0 : Nat) (v1 : Nat) (v2 : Int32) (v3 : Int32) (mm : zMem) : Option (Nat × Nat × Int32 × Int32 × zMem) := match fuel with
  | 0 => none
  | fu + 1 => (if v2 ≤ v3 then some (v0, v1, v2, v3, mm) else zoS (sh v0) 4 (fun le3 => Option.bind (mm.2.2 v0 2) (fun a4 => zoS (sh v1) 100 (fun le6 => if (v3 : Int32) < 0 ∨ le6 ≤ (v3 : Int32).toNatClampNeg then none else zoL (((mm.1 v1 (v3 : Int32).toNatClampNeg) >>> (16 &&& 31)) &&& 255) (fun x8 => zoL (3 * v3) (fun i9 => zoS (sh a4) 100 (fun le11 => if (i9 : Int32) < 0 ∨ le11 ≤ (i9 : Int32).toNatClampNeg then none else zoL (mI mm a4 (i9 : Int32).toNatClampNeg x8) (fun mm13 => zoS (sh v0) 4 (fun le15 => Option.bind (mm13.2.2 v0 2) (fun a16 => zoS (sh v1) 100 (fun le18 => if (v3 : Int32) < 0 ∨ le18 ≤ (v3 : Int32).toNatClampNeg then none else zoL (((mm13.1 v1 (v3 : Int32).toNatClampNeg) >>> (8 &&& 31)) &&& 255) (fun x20 => zoL ((3 * v3) + 1) (fun i21 => zoS (sh a16) 100 (fun le23 => if (i21 : Int32) < 0 ∨ le23 ≤ (i21 : Int32).toNatClampNeg then none else zoL (mI mm13 a16 (i21 : Int32).toNatClampNeg x20) (fun mm25 => zoS (sh v0) 4 (fun le27 => Option.bind (mm25.2.2 v0 2) (fun a28 => zoS (sh v1) 100 (fun le30 => if (v3 : Int32) < 0 ∨ le30 ≤ (v3 : Int32).toNatClampNeg then none else zoL ((mm25.1 v1 (v3 : Int32).toNatClampNeg) &&& 255) (fun x32 => zoL ((3 * v3) + 2) (fun i33 => zoS (sh a28) 100 (fun le35 => if (i33 : Int32) < 0 ∨ le35 ≤ (i33 : Int32).toNatClampNeg then none else zoL (mI mm25 a28 (i33 : Int32).toNatClampNeg x32) (fun mm37 => L_XPacker_makeRaw_2 sh fu v0 v1 v2 (v3 + 1) mm37))))))))))))))))))))))
set_option maxHeartbeats 4000000 in
set_option maxRecDepth 100000 in
theorem lp_XPacker_makeRaw_2 {p : Program} {l : Launch} {e : Env} {s : State} {m : MethodId} {args : Array Value} {below : List Frame} {meth : Method} {c : Code} {D : va_G} {tA : Nat → ClassId} {b n : Nat} {post : Option Value → zV → Nat → Prop} {sh : zSh} (F : zF p s m args meth c zb_XPacker_makeRaw 4 "OrreryBox$Packer" D tA b) : ∀ (fuel : Nat) (v0 : Nat) (v1 : Nat) (v2 : Int32) (v3 : Int32) (mm : zMem) (r : Nat × Nat × Int32 × Int32 × zMem), L_XPacker_makeRaw_2 sh fuel v0 v1 v2 v3 mm = some r → (Z p l e { frames := 0, cells := 0, slots := 0, locals := 0 } s m args below meth c D b 4 (MQ below (zQ D b post) args s 0 0 (fun q => b ≤ q)) (zW tA b sh r.2.2.2.2) n 0 0 68 [(0, .ref (b + (r.1))), (1, .ref (b + (r.2.1))), (2, .int (r.2.2.1)), (3, .int (r.2.2.2.1))] []) → Z p l e { frames := 0, cells := 0, slots := 0, locals := 0 } s m args below meth c D b 4 (MQ below (zQ D b post) args s 0 0 (fun q => b ≤ q)) (zW tA b sh mm) n 0 0 2 [(0, .ref (b + v0)), (1, .ref (b + v1)), (2, .int v2), (3, .int v3)] [] := by
  intro fuel
  induction fuel with
  | zero =>
    intro v0 v1 v2 v3 mm r h
    cases h
  | succ fu ih =>
    intro v0 v1 v2 v3 mm r h hx0
    rw [L_XPacker_makeRaw_2] at h
    refine zr_iload_n F zd_XPacker_makeRaw_2 rfl ?_
    refine zr_iload_n F zd_XPacker_makeRaw_3 rfl ?_
    refine zr_icmp_ge F 68 zd_XPacker_makeRaw_4 (by decide) (fun hb1 => ?_) (fun hb1 => ?_)
    ·
      rw [if_pos hb1] at h
      obtain rfl := Option.some.inj h
      refine zr_loc (L' := [(0, .ref (b + v0)), (1, .ref (b + v1)), (2, .int v2), (3, .int v3)]) ⟨rfl, rfl, rfl, rfl, trivial⟩ ?_
      exact hx0 
    ·
      rw [if_neg hb1] at h
      refine zr_aload_n F zd_XPacker_makeRaw_7 rfl ?_
      obtain ⟨le3, hs2, h⟩ := zoS_s h
      obtain ⟨a4, ea4, h⟩ := zoB_s h
      refine zr_get F 4 2 zd_XPacker_makeRaw_8 (zW_o hs2 (by decide)) rfl (by decide) zw_85 rfl (by rfl) ?_
      refine zr_tor ea4 ?_
      refine zr_pcn 11 rfl ?_
      refine zr_iconstv (v := 3) F zd_XPacker_makeRaw_11 (by decide) ?_
      refine zr_iload_n F zd_XPacker_makeRaw_12 rfl ?_
      refine zr_imul F zd_XPacker_makeRaw_13 ?_
      refine zr_aload_n F zd_XPacker_makeRaw_14 rfl ?_
      refine zr_iload_n F zd_XPacker_makeRaw_15 rfl ?_
      obtain ⟨le6, hs5, h⟩ := zoS_s h
      obtain ⟨hi7, h⟩ := zoI_s h
      refine zr_iald F zd_XPacker_makeRaw_16 (zW_a0 hs5) hi7 ?_
      refine zr_bipushv (v := 16) F zd_XPacker_makeRaw_17 (by decide) ?_
      refine zr_ishr F zd_XPacker_makeRaw_19 ?_
      refine zr_pcn 20 rfl ?_
      refine zr_sipushv (v := 255) F zd_XPacker_makeRaw_20 (by decide) ?_
      refine zr_iand F zd_XPacker_makeRaw_23 ?_
      obtain ⟨x8, ex8, h⟩ := zoL_s h
      rw [← ex8]
      obtain ⟨i9, ei9, h⟩ := zoL_s h
      rw [← ei9]
      obtain ⟨le11, hs10, h⟩ := zoS_s h
      obtain ⟨hi12, h⟩ := zoI_s h
      refine zr_iast F zd_XPacker_makeRaw_24 (zW_a0 hs10) hi12 ?_
      obtain ⟨mm13, emm13, h⟩ := zoL_s h
      refine zr_norm (zW tA b sh mm13) _ (by rw [emm13]; exact zW_s0 hs10) rfl ?_
      refine zr_aload_n F zd_XPacker_makeRaw_25 rfl ?_
      obtain ⟨le15, hs14, h⟩ := zoS_s h
      obtain ⟨a16, ea16, h⟩ := zoB_s h
      refine zr_get F 4 2 zd_XPacker_makeRaw_26 (zW_o hs14 (by decide)) rfl (by decide) zw_85 rfl (by rfl) ?_
      refine zr_tor ea16 ?_
      refine zr_iconstv (v := 3) F zd_XPacker_makeRaw_29 (by decide) ?_
      refine zr_iload_n F zd_XPacker_makeRaw_30 rfl ?_
      refine zr_imul F zd_XPacker_makeRaw_31 ?_
      refine zr_pcn 32 rfl ?_
      refine zr_iconstv (v := 1) F zd_XPacker_makeRaw_32 (by decide) ?_
      refine zr_iadd F zd_XPacker_makeRaw_33 ?_
      refine zr_aload_n F zd_XPacker_makeRaw_34 rfl ?_
      refine zr_iload_n F zd_XPacker_makeRaw_35 rfl ?_
      obtain ⟨le18, hs17, h⟩ := zoS_s h
      obtain ⟨hi19, h⟩ := zoI_s h
      refine zr_iald F zd_XPacker_makeRaw_36 (zW_a0 hs17) hi19 ?_
      refine zr_bipushv (v := 8) F zd_XPacker_makeRaw_37 (by decide) ?_
      refine zr_ishr F zd_XPacker_makeRaw_39 ?_
      refine zr_sipushv (v := 255) F zd_XPacker_makeRaw_40 (by decide) ?_
      refine zr_pcn 43 rfl ?_
      refine zr_iand F zd_XPacker_makeRaw_43 ?_
      obtain ⟨x20, ex20, h⟩ := zoL_s h
      rw [← ex20]
      obtain ⟨i21, ei21, h⟩ := zoL_s h
      rw [← ei21]
      obtain ⟨le23, hs22, h⟩ := zoS_s h
      obtain ⟨hi24, h⟩ := zoI_s h
      refine zr_iast F zd_XPacker_makeRaw_44 (zW_a0 hs22) hi24 ?_
      obtain ⟨mm25, emm25, h⟩ := zoL_s h
      refine zr_norm (zW tA b sh mm25) _ (by rw [emm25]; exact zW_s0 hs22) rfl ?_
      refine zr_aload_n F zd_XPacker_makeRaw_45 rfl ?_
      obtain ⟨le27, hs26, h⟩ := zoS_s h
      obtain ⟨a28, ea28, h⟩ := zoB_s h
      refine zr_get F 4 2 zd_XPacker_makeRaw_46 (zW_o hs26 (by decide)) rfl (by decide) zw_85 rfl (by rfl) ?_
      refine zr_tor ea28 ?_
      refine zr_iconstv (v := 3) F zd_XPacker_makeRaw_49 (by decide) ?_
      refine zr_iload_n F zd_XPacker_makeRaw_50 rfl ?_
      refine zr_imul F zd_XPacker_makeRaw_51 ?_
      refine zr_iconstv (v := 2) F zd_XPacker_makeRaw_52 (by decide) ?_
      refine zr_pcn 53 rfl ?_
      refine zr_iadd F zd_XPacker_makeRaw_53 ?_
      refine zr_aload_n F zd_XPacker_makeRaw_54 rfl ?_
      refine zr_iload_n F zd_XPacker_makeRaw_55 rfl ?_
      obtain ⟨le30, hs29, h⟩ := zoS_s h
      obtain ⟨hi31, h⟩ := zoI_s h
      refine zr_iald F zd_XPacker_makeRaw_56 (zW_a0 hs29) hi31 ?_
      refine zr_sipushv (v := 255) F zd_XPacker_makeRaw_57 (by decide) ?_
      refine zr_iand F zd_XPacker_makeRaw_60 ?_
      obtain ⟨x32, ex32, h⟩ := zoL_s h
      rw [← ex32]
      obtain ⟨i33, ei33, h⟩ := zoL_s h
      rw [← ei33]
      obtain ⟨le35, hs34, h⟩ := zoS_s h
      obtain ⟨hi36, h⟩ := zoI_s h
      refine zr_iast F zd_XPacker_makeRaw_61 (zW_a0 hs34) hi36 ?_
      obtain ⟨mm37, emm37, h⟩ := zoL_s h
      refine zr_norm (zW tA b sh mm37) _ (by rw [emm37]; exact zW_s0 hs34) rfl ?_
      refine zr_iinc (v := (v3 + 1)) F zd_XPacker_makeRaw_62 rfl rfl (by decide) ?_
      refine zr_pcn 65 rfl ?_
      refine zr_goto F 2 zd_XPacker_makeRaw_65 (by decide) ?_
      refine zr_loc (L' := [(0, .ref (b + v0)), (1, .ref (b + v1)), (2, .int v2), (3, .int (v3 + 1))]) ⟨rfl, rfl, rfl, rfl, trivial⟩ ?_
      exact ih _ _ _ _ _ _ h hx0
def F_XPacker_makeRaw (sh : zSh) (mm : zMem) (o : Nat) (x0_ : Nat) (x1_ : Int32) : Option zMem := Option.bind (L_XPacker_makeRaw_2 sh zfuel o x0_ x1_ 0 mm) (fun q38 => some (q38.2.2.2.2))
set_option maxHeartbeats 4000000 in
set_option maxRecDepth 100000 in
theorem k_XPacker_makeRaw (l : Launch) (D : va_G) (tA : Nat → ClassId) (b : Nat) (sh : zSh) (n : Nat) {mm : zMem} {o : Nat} {x0_ : Nat} {x1_ : Int32} {r : zMem} (h : F_XPacker_makeRaw sh mm o x0_ x1_ = some r) : zM l D tA b zy_XPacker_makeRaw zb_XPacker_makeRaw 4 none 0 0 0 0 [.ref (b + o), .ref (b + x0_), .int x1_] (zW tA b sh mm) n (zE none (zW tA b sh r) n) := by
  unfold F_XPacker_makeRaw at h
  refine zM_of (own := "OrreryBox$Packer") (plainFor_of_name (by decide)) rfl (Nat.le_of_ble_eq_true rfl) (fun p e s m below meth c F hr hin hH => ?_)
  refine zr_iconstv (v := 0) F zd_XPacker_makeRaw_0 (by decide) ?_
  refine zr_istore_n F zd_XPacker_makeRaw_1 (by decide) ?_
  obtain ⟨q38, eq38, h⟩ := zoB_s h
  refine zr_loc (L' := [(0, .ref (b + o)), (1, .ref (b + x0_)), (2, .int x1_), (3, .int 0)]) ⟨rfl, rfl, rfl, rfl, trivial⟩ ?_
  refine lp_XPacker_makeRaw_2 F _ _ _ _ _ _ _ eq38 ?_
  ·
    obtain rfl := Option.some.inj h
    exact zr_vret F hr zd_XPacker_makeRaw_68 (Nat.le_of_ble_eq_true rfl) (Nat.le_of_ble_eq_true rfl) ⟨rfl, rfl, rfl⟩
abbrev zb_XPacker_filtered : ByteArray := prog_5_method_6_code
def zy_XPacker_filtered : MethodName := ⟨"OrreryBox$Packer", "filtered", "(IIII)I"⟩
theorem zc_XPacker_filtered : Cond.code zy_XPacker_filtered zb_XPacker_filtered 9 (some .int) ∈ gw := gw_t 924 (by decide +kernel) rfl
theorem zq_XPacker_filtered : zy_XPacker_filtered.cls ≠ "java/lang/invoke/MethodHandle" ∧ zy_XPacker_filtered.cls ≠ "java/lang/invoke/VarHandle" ∧ (parseMethodDescriptor zy_XPacker_filtered.desc).map (fun d => d.parameters.length) = some 4 := by decide +kernel
theorem zd_XPacker_filtered_0 : decode zb_XPacker_filtered 0 = .ok (.iload_n 3, 1) := by decide +kernel
theorem zd_XPacker_filtered_1 : decode zb_XPacker_filtered 1 = .ok (.iload 4, 2) := by decide +kernel
theorem zd_XPacker_filtered_3 : decode zb_XPacker_filtered 3 = .ok (.imul, 1) := by decide +kernel
theorem zd_XPacker_filtered_4 : decode zb_XPacker_filtered 4 = .ok (.iload_n 2, 1) := by decide +kernel
theorem zd_XPacker_filtered_5 : decode zb_XPacker_filtered 5 = .ok (.iadd, 1) := by decide +kernel
theorem zd_XPacker_filtered_6 : decode zb_XPacker_filtered 6 = .ok (.istore 5, 2) := by decide +kernel
theorem zd_XPacker_filtered_8 : decode zb_XPacker_filtered 8 = .ok (.iload_n 2, 1) := by decide +kernel
theorem zd_XPacker_filtered_9 : decode zb_XPacker_filtered 9 = .ok (.iconst 3, 1) := by decide +kernel
theorem zd_XPacker_filtered_10 : decode zb_XPacker_filtered 10 = .ok (.if_icmp .ge 7, 3) := by decide +kernel
theorem zd_XPacker_filtered_13 : decode zb_XPacker_filtered 13 = .ok (.iconst 0, 1) := by decide +kernel
theorem zd_XPacker_filtered_14 : decode zb_XPacker_filtered 14 = .ok (.goto 12, 3) := by decide +kernel
theorem zd_XPacker_filtered_17 : decode zb_XPacker_filtered 17 = .ok (.aload_n 0, 1) := by decide +kernel
theorem zd_XPacker_filtered_18 : decode zb_XPacker_filtered 18 = .ok (.getfield 15, 3) := by decide +kernel
theorem zd_XPacker_filtered_21 : decode zb_XPacker_filtered 21 = .ok (.iload 5, 2) := by decide +kernel
theorem zd_XPacker_filtered_23 : decode zb_XPacker_filtered 23 = .ok (.iconst 3, 1) := by decide +kernel
theorem zd_XPacker_filtered_24 : decode zb_XPacker_filtered 24 = .ok (.isub, 1) := by decide +kernel
theorem zd_XPacker_filtered_25 : decode zb_XPacker_filtered 25 = .ok (.iaload, 1) := by decide +kernel
theorem zd_XPacker_filtered_26 : decode zb_XPacker_filtered 26 = .ok (.istore 6, 2) := by decide +kernel
theorem zd_XPacker_filtered_28 : decode zb_XPacker_filtered 28 = .ok (.iload_n 3, 1) := by decide +kernel
theorem zd_XPacker_filtered_29 : decode zb_XPacker_filtered 29 = .ok (.ifCond .ne 7, 3) := by decide +kernel
theorem zd_XPacker_filtered_32 : decode zb_XPacker_filtered 32 = .ok (.iconst 0, 1) := by decide +kernel
theorem zd_XPacker_filtered_33 : decode zb_XPacker_filtered 33 = .ok (.goto 13, 3) := by decide +kernel
theorem zd_XPacker_filtered_36 : decode zb_XPacker_filtered 36 = .ok (.aload_n 0, 1) := by decide +kernel
theorem zd_XPacker_filtered_37 : decode zb_XPacker_filtered 37 = .ok (.getfield 15, 3) := by decide +kernel
theorem zd_XPacker_filtered_40 : decode zb_XPacker_filtered 40 = .ok (.iload 5, 2) := by decide +kernel
theorem zd_XPacker_filtered_42 : decode zb_XPacker_filtered 42 = .ok (.iload 4, 2) := by decide +kernel
theorem zd_XPacker_filtered_44 : decode zb_XPacker_filtered 44 = .ok (.isub, 1) := by decide +kernel
theorem zd_XPacker_filtered_45 : decode zb_XPacker_filtered 45 = .ok (.iaload, 1) := by decide +kernel
theorem zd_XPacker_filtered_46 : decode zb_XPacker_filtered 46 = .ok (.istore 7, 2) := by decide +kernel
theorem zd_XPacker_filtered_48 : decode zb_XPacker_filtered 48 = .ok (.iload_n 2, 1) := by decide +kernel
theorem zd_XPacker_filtered_49 : decode zb_XPacker_filtered 49 = .ok (.iconst 3, 1) := by decide +kernel
theorem zd_XPacker_filtered_50 : decode zb_XPacker_filtered 50 = .ok (.if_icmp .lt 7, 3) := by decide +kernel
theorem zd_XPacker_filtered_53 : decode zb_XPacker_filtered 53 = .ok (.iload_n 3, 1) := by decide +kernel
theorem zd_XPacker_filtered_54 : decode zb_XPacker_filtered 54 = .ok (.ifCond .ne 7, 3) := by decide +kernel
theorem zd_XPacker_filtered_57 : decode zb_XPacker_filtered 57 = .ok (.iconst 0, 1) := by decide +kernel
theorem zd_XPacker_filtered_58 : decode zb_XPacker_filtered 58 = .ok (.goto 15, 3) := by decide +kernel
theorem zd_XPacker_filtered_61 : decode zb_XPacker_filtered 61 = .ok (.aload_n 0, 1) := by decide +kernel
theorem zd_XPacker_filtered_62 : decode zb_XPacker_filtered 62 = .ok (.getfield 15, 3) := by decide +kernel
theorem zd_XPacker_filtered_65 : decode zb_XPacker_filtered 65 = .ok (.iload 5, 2) := by decide +kernel
theorem zd_XPacker_filtered_67 : decode zb_XPacker_filtered 67 = .ok (.iload 4, 2) := by decide +kernel
theorem zd_XPacker_filtered_69 : decode zb_XPacker_filtered 69 = .ok (.isub, 1) := by decide +kernel
theorem zd_XPacker_filtered_70 : decode zb_XPacker_filtered 70 = .ok (.iconst 3, 1) := by decide +kernel
theorem zd_XPacker_filtered_71 : decode zb_XPacker_filtered 71 = .ok (.isub, 1) := by decide +kernel
theorem zd_XPacker_filtered_72 : decode zb_XPacker_filtered 72 = .ok (.iaload, 1) := by decide +kernel
theorem zd_XPacker_filtered_73 : decode zb_XPacker_filtered 73 = .ok (.istore 8, 2) := by decide +kernel
theorem zd_XPacker_filtered_75 : decode zb_XPacker_filtered 75 = .ok (.aload_n 0, 1) := by decide +kernel
theorem zd_XPacker_filtered_76 : decode zb_XPacker_filtered 76 = .ok (.getfield 15, 3) := by decide +kernel
theorem zd_XPacker_filtered_79 : decode zb_XPacker_filtered 79 = .ok (.iload 5, 2) := by decide +kernel
theorem zd_XPacker_filtered_81 : decode zb_XPacker_filtered 81 = .ok (.iaload, 1) := by decide +kernel
theorem zd_XPacker_filtered_82 : decode zb_XPacker_filtered 82 = .ok (.iload_n 1, 1) := by decide +kernel
theorem zd_XPacker_filtered_83 : decode zb_XPacker_filtered 83 = .ok (.iload 6, 2) := by decide +kernel
theorem zd_XPacker_filtered_85 : decode zb_XPacker_filtered 85 = .ok (.iload 7, 2) := by decide +kernel
theorem zd_XPacker_filtered_87 : decode zb_XPacker_filtered 87 = .ok (.iload 8, 2) := by decide +kernel
theorem zd_XPacker_filtered_89 : decode zb_XPacker_filtered 89 = .ok (.invokestatic 87, 3) := by decide +kernel
theorem zd_XPacker_filtered_92 : decode zb_XPacker_filtered 92 = .ok (.isub, 1) := by decide +kernel
theorem zd_XPacker_filtered_93 : decode zb_XPacker_filtered 93 = .ok (.sipush 255, 3) := by decide +kernel
theorem zd_XPacker_filtered_96 : decode zb_XPacker_filtered 96 = .ok (.iand, 1) := by decide +kernel
theorem zd_XPacker_filtered_97 : decode zb_XPacker_filtered 97 = .ok (.ireturn, 1) := by decide +kernel
theorem zw_925 : (Jvm.Cond.methodLink "OrreryBox$Packer" (87 : Nat) ({ cls := "OrreryBox$Packer", name := "guess", desc := "(IIII)I" } : Jvm.MethodName)) ∈ gw := gw_t 925 (by decide +kernel) rfl
theorem zw_926 : (Jvm.Cond.static ({ cls := "OrreryBox$Packer", name := "guess", desc := "(IIII)I" } : Jvm.MethodName)) ∈ gw := gw_t 926 (by decide +kernel) rfl
theorem zs_XPacker_87 : zwS "OrreryBox$Packer" 87 zy_XPacker_guess zb_XPacker_guess 4 (some .int) := ⟨zw_925, zw_926, zw_3, zc_XPacker_guess⟩
def F_XPacker_filtered (sh : zSh) (mm : zMem) (o : Nat) (x0_ : Int32) (x1_ : Int32) (x2_ : Int32) (x3_ : Int32) : Option (Int32 × zMem) := zoL ((x2_ * x3_) + x1_) (fun x1 => (if 3 ≤ x1_ then zoS (sh o) 4 (fun le4 => Option.bind (mm.2.2 o 2) (fun a5 => zoL (x1 - 3) (fun i6 => zoS (sh a5) 100 (fun le8 => if (i6 : Int32) < 0 ∨ le8 ≤ (i6 : Int32).toNatClampNeg then none else zoL (mm.1 a5 (i6 : Int32).toNatClampNeg) (fun x10 => (if x2_ = 0 then (if x1_ < 3 then zoS (sh o) 4 (fun le45 => Option.bind (mm.2.2 o 2) (fun a46 => zoS (sh a46) 100 (fun le48 => if (x1 : Int32) < 0 ∨ le48 ≤ (x1 : Int32).toNatClampNeg then none else some ((((mm.1 a46 (x1 : Int32).toNatClampNeg) - (sp_XPacker_guess x0_ x10 0 0)) &&& 255), mm)))) else zoS (sh o) 4 (fun le52 => Option.bind (mm.2.2 o 2) (fun a53 => zoS (sh a53) 100 (fun le55 => if (x1 : Int32) < 0 ∨ le55 ≤ (x1 : Int32).toNatClampNeg then none else some ((((mm.1 a53 (x1 : Int32).toNatClampNeg) - (sp_XPacker_guess x0_ x10 0 0)) &&& 255), mm))))) else zoS (sh o) 4 (fun le13 => Option.bind (mm.2.2 o 2) (fun a14 => zoL (x1 - x3_) (fun i15 => zoS (sh a14) 100 (fun le17 => if (i15 : Int32) < 0 ∨ le17 ≤ (i15 : Int32).toNatClampNeg then none else zoL (mm.1 a14 (i15 : Int32).toNatClampNeg) (fun x19 => (if x1_ < 3 then zoS (sh o) 4 (fun le22 => Option.bind (mm.2.2 o 2) (fun a23 => zoS (sh a23) 100 (fun le25 => if (x1 : Int32) < 0 ∨ le25 ≤ (x1 : Int32).toNatClampNeg then none else some ((((mm.1 a23 (x1 : Int32).toNatClampNeg) - (sp_XPacker_guess x0_ x10 x19 0)) &&& 255), mm)))) else zoS (sh o) 4 (fun le29 => Option.bind (mm.2.2 o 2) (fun a30 => zoL ((x1 - x3_) - 3) (fun i31 => zoS (sh a30) 100 (fun le33 => if (i31 : Int32) < 0 ∨ le33 ≤ (i31 : Int32).toNatClampNeg then none else zoL (mm.1 a30 (i31 : Int32).toNatClampNeg) (fun x35 => zoS (sh o) 4 (fun le37 => Option.bind (mm.2.2 o 2) (fun a38 => zoS (sh a38) 100 (fun le40 => if (x1 : Int32) < 0 ∨ le40 ≤ (x1 : Int32).toNatClampNeg then none else some ((((mm.1 a38 (x1 : Int32).toNatClampNeg) - (sp_XPacker_guess x0_ x10 x19 x35)) &&& 255), mm))))))))))))))))))))) else (if x2_ = 0 then (if x1_ < 3 then zoS (sh o) 4 (fun le92 => Option.bind (mm.2.2 o 2) (fun a93 => zoS (sh a93) 100 (fun le95 => if (x1 : Int32) < 0 ∨ le95 ≤ (x1 : Int32).toNatClampNeg then none else some ((((mm.1 a93 (x1 : Int32).toNatClampNeg) - (sp_XPacker_guess x0_ 0 0 0)) &&& 255), mm)))) else zoS (sh o) 4 (fun le99 => Option.bind (mm.2.2 o 2) (fun a100 => zoS (sh a100) 100 (fun le102 => if (x1 : Int32) < 0 ∨ le102 ≤ (x1 : Int32).toNatClampNeg then none else some ((((mm.1 a100 (x1 : Int32).toNatClampNeg) - (sp_XPacker_guess x0_ 0 0 0)) &&& 255), mm))))) else zoS (sh o) 4 (fun le60 => Option.bind (mm.2.2 o 2) (fun a61 => zoL (x1 - x3_) (fun i62 => zoS (sh a61) 100 (fun le64 => if (i62 : Int32) < 0 ∨ le64 ≤ (i62 : Int32).toNatClampNeg then none else zoL (mm.1 a61 (i62 : Int32).toNatClampNeg) (fun x66 => (if x1_ < 3 then zoS (sh o) 4 (fun le69 => Option.bind (mm.2.2 o 2) (fun a70 => zoS (sh a70) 100 (fun le72 => if (x1 : Int32) < 0 ∨ le72 ≤ (x1 : Int32).toNatClampNeg then none else some ((((mm.1 a70 (x1 : Int32).toNatClampNeg) - (sp_XPacker_guess x0_ 0 x66 0)) &&& 255), mm)))) else zoS (sh o) 4 (fun le76 => Option.bind (mm.2.2 o 2) (fun a77 => zoL ((x1 - x3_) - 3) (fun i78 => zoS (sh a77) 100 (fun le80 => if (i78 : Int32) < 0 ∨ le80 ≤ (i78 : Int32).toNatClampNeg then none else zoL (mm.1 a77 (i78 : Int32).toNatClampNeg) (fun x82 => zoS (sh o) 4 (fun le84 => Option.bind (mm.2.2 o 2) (fun a85 => zoS (sh a85) 100 (fun le87 => if (x1 : Int32) < 0 ∨ le87 ≤ (x1 : Int32).toNatClampNeg then none else some ((((mm.1 a85 (x1 : Int32).toNatClampNeg) - (sp_XPacker_guess x0_ 0 x66 x82)) &&& 255), mm))))))))))))))))))
set_option maxHeartbeats 4000000 in
set_option maxRecDepth 100000 in
theorem k_XPacker_filtered (l : Launch) (D : va_G) (tA : Nat → ClassId) (b : Nat) (sh : zSh) (n : Nat) {mm : zMem} {o : Nat} {x0_ : Int32} {x1_ : Int32} {x2_ : Int32} {x3_ : Int32} {r : (Int32 × zMem)} (h : F_XPacker_filtered sh mm o x0_ x1_ x2_ x3_ = some r) : zM l D tA b zy_XPacker_filtered zb_XPacker_filtered 9 (some .int) 3 68 0 0 [.ref (b + o), .int x0_, .int x1_, .int x2_, .int x3_] (zW tA b sh mm) n (zE (some (.int (r.1))) (zW tA b sh r.2) n) := by
  unfold F_XPacker_filtered at h
  refine zM_of (own := "OrreryBox$Packer") (plainFor_of_name (by decide)) rfl (Nat.le_of_ble_eq_true rfl) (fun p e s m below meth c F hr hin hH => ?_)
  refine zr_iload_n F zd_XPacker_filtered_0 rfl ?_
  refine zr_iload F zd_XPacker_filtered_1 rfl ?_
  refine zr_imul F zd_XPacker_filtered_3 ?_
  refine zr_iload_n F zd_XPacker_filtered_4 rfl ?_
  refine zr_iadd F zd_XPacker_filtered_5 ?_
  obtain ⟨x1, ex1, h⟩ := zoL_s h
  rw [← ex1]
  refine zr_istore F zd_XPacker_filtered_6 (by decide) ?_
  refine zr_iload_n F zd_XPacker_filtered_8 rfl ?_
  refine zr_pcn 9 rfl ?_
  refine zr_iconstv (v := 3) F zd_XPacker_filtered_9 (by decide) ?_
  refine zr_icmp_ge F 17 zd_XPacker_filtered_10 (by decide) (fun hb2 => ?_) (fun hb2 => ?_)
  ·
    rw [if_pos hb2] at h
    refine zr_aload_n F zd_XPacker_filtered_17 rfl ?_
    obtain ⟨le4, hs3, h⟩ := zoS_s h
    obtain ⟨a5, ea5, h⟩ := zoB_s h
    refine zr_get F 4 2 zd_XPacker_filtered_18 (zW_o hs3 (by decide)) rfl (by decide) zw_85 rfl (by rfl) ?_
    refine zr_tor ea5 ?_
    refine zr_iload F zd_XPacker_filtered_21 rfl ?_
    refine zr_iconstv (v := 3) F zd_XPacker_filtered_23 (by decide) ?_
    refine zr_isub F zd_XPacker_filtered_24 ?_
    obtain ⟨i6, ei6, h⟩ := zoL_s h
    rw [← ei6]
    obtain ⟨le8, hs7, h⟩ := zoS_s h
    obtain ⟨hi9, h⟩ := zoI_s h
    refine zr_iald F zd_XPacker_filtered_25 (zW_a0 hs7) hi9 ?_
    refine zr_pcn 26 rfl ?_
    obtain ⟨x10, ex10, h⟩ := zoL_s h
    rw [← ex10]
    refine zr_istore F zd_XPacker_filtered_26 (by decide) ?_
    refine zr_iload_n F zd_XPacker_filtered_28 rfl ?_
    refine zr_if_ne F 36 zd_XPacker_filtered_29 (by decide) (fun hb11 => ?_) (fun hb11 => ?_)
    ·
      rw [if_neg hb11] at h
      refine zr_aload_n F zd_XPacker_filtered_36 rfl ?_
      obtain ⟨le13, hs12, h⟩ := zoS_s h
      obtain ⟨a14, ea14, h⟩ := zoB_s h
      refine zr_get F 4 2 zd_XPacker_filtered_37 (zW_o hs12 (by decide)) rfl (by decide) zw_85 rfl (by rfl) ?_
      refine zr_tor ea14 ?_
      refine zr_iload F zd_XPacker_filtered_40 rfl ?_
      refine zr_iload F zd_XPacker_filtered_42 rfl ?_
      refine zr_isub F zd_XPacker_filtered_44 ?_
      refine zr_pcn 45 rfl ?_
      obtain ⟨i15, ei15, h⟩ := zoL_s h
      rw [← ei15]
      obtain ⟨le17, hs16, h⟩ := zoS_s h
      obtain ⟨hi18, h⟩ := zoI_s h
      refine zr_iald F zd_XPacker_filtered_45 (zW_a0 hs16) hi18 ?_
      obtain ⟨x19, ex19, h⟩ := zoL_s h
      rw [← ex19]
      refine zr_istore F zd_XPacker_filtered_46 (by decide) ?_
      refine zr_iload_n F zd_XPacker_filtered_48 rfl ?_
      refine zr_iconstv (v := 3) F zd_XPacker_filtered_49 (by decide) ?_
      refine zr_icmp_lt F 57 zd_XPacker_filtered_50 (by decide) (fun hb20 => ?_) (fun hb20 => ?_)
      ·
        rw [if_pos hb20] at h
        refine zr_iconstv (v := 0) F zd_XPacker_filtered_57 (by decide) ?_
        refine zr_goto F 73 zd_XPacker_filtered_58 (by decide) ?_
        refine zr_istore F zd_XPacker_filtered_73 (by decide) ?_
        refine zr_pcn 75 rfl ?_
        refine zr_aload_n F zd_XPacker_filtered_75 rfl ?_
        obtain ⟨le22, hs21, h⟩ := zoS_s h
        obtain ⟨a23, ea23, h⟩ := zoB_s h
        refine zr_get F 4 2 zd_XPacker_filtered_76 (zW_o hs21 (by decide)) rfl (by decide) zw_85 rfl (by rfl) ?_
        refine zr_tor ea23 ?_
        refine zr_iload F zd_XPacker_filtered_79 rfl ?_
        obtain ⟨le25, hs24, h⟩ := zoS_s h
        obtain ⟨hi26, h⟩ := zoI_s h
        refine zr_iald F zd_XPacker_filtered_81 (zW_a0 hs24) hi26 ?_
        refine zr_iload_n F zd_XPacker_filtered_82 rfl ?_
        refine zr_iload F zd_XPacker_filtered_83 rfl ?_
        refine zr_iload F zd_XPacker_filtered_85 rfl ?_
        refine zr_iload F zd_XPacker_filtered_87 rfl ?_
        refine zr_pcn 89 rfl ?_
        refine zr_callS1 F (c_XPacker_guess l D tA b _ _ x0_ x10 x19 0) zd_XPacker_filtered_89 zs_XPacker_87 zq_XPacker_guess rfl rfl ⟨(Nat.le_of_ble_eq_true rfl), (Nat.le_of_ble_eq_true rfl)⟩ (Nat.le_of_ble_eq_true rfl) ⟨(Nat.le_of_ble_eq_true rfl), (Nat.le_of_ble_eq_true rfl)⟩ ?_
        refine zr_isub F zd_XPacker_filtered_92 ?_
        refine zr_sipushv (v := 255) F zd_XPacker_filtered_93 (by decide) ?_
        refine zr_iand F zd_XPacker_filtered_96 ?_
        obtain rfl := Option.some.inj h
        exact zr_iret F hr zd_XPacker_filtered_97 (Nat.le_of_ble_eq_true rfl) (Nat.le_of_ble_eq_true rfl) ⟨rfl, rfl, rfl⟩
      ·
        rw [if_neg hb20] at h
        refine zr_iload_n F zd_XPacker_filtered_53 rfl ?_
        refine zr_if_ne F 61 zd_XPacker_filtered_54 (by decide) (fun _ => ?_) (fun hq => absurd hq hb11)
        refine zr_aload_n F zd_XPacker_filtered_61 rfl ?_
        refine zr_pcn 62 rfl ?_
        obtain ⟨le29, hs28, h⟩ := zoS_s h
        obtain ⟨a30, ea30, h⟩ := zoB_s h
        refine zr_get F 4 2 zd_XPacker_filtered_62 (zW_o hs28 (by decide)) rfl (by decide) zw_85 rfl (by rfl) ?_
        refine zr_tor ea30 ?_
        refine zr_iload F zd_XPacker_filtered_65 rfl ?_
        refine zr_iload F zd_XPacker_filtered_67 rfl ?_
        refine zr_isub F zd_XPacker_filtered_69 ?_
        refine zr_iconstv (v := 3) F zd_XPacker_filtered_70 (by decide) ?_
        refine zr_isub F zd_XPacker_filtered_71 ?_
        obtain ⟨i31, ei31, h⟩ := zoL_s h
        rw [← ei31]
        obtain ⟨le33, hs32, h⟩ := zoS_s h
        obtain ⟨hi34, h⟩ := zoI_s h
        refine zr_iald F zd_XPacker_filtered_72 (zW_a0 hs32) hi34 ?_
        obtain ⟨x35, ex35, h⟩ := zoL_s h
        rw [← ex35]
        refine zr_istore F zd_XPacker_filtered_73 (by decide) ?_
        refine zr_pcn 75 rfl ?_
        refine zr_aload_n F zd_XPacker_filtered_75 rfl ?_
        obtain ⟨le37, hs36, h⟩ := zoS_s h
        obtain ⟨a38, ea38, h⟩ := zoB_s h
        refine zr_get F 4 2 zd_XPacker_filtered_76 (zW_o hs36 (by decide)) rfl (by decide) zw_85 rfl (by rfl) ?_
        refine zr_tor ea38 ?_
        refine zr_iload F zd_XPacker_filtered_79 rfl ?_
        obtain ⟨le40, hs39, h⟩ := zoS_s h
        obtain ⟨hi41, h⟩ := zoI_s h
        refine zr_iald F zd_XPacker_filtered_81 (zW_a0 hs39) hi41 ?_
        refine zr_iload_n F zd_XPacker_filtered_82 rfl ?_
        refine zr_iload F zd_XPacker_filtered_83 rfl ?_
        refine zr_iload F zd_XPacker_filtered_85 rfl ?_
        refine zr_iload F zd_XPacker_filtered_87 rfl ?_
        refine zr_pcn 89 rfl ?_
        refine zr_callS1 F (c_XPacker_guess l D tA b _ _ x0_ x10 x19 x35) zd_XPacker_filtered_89 zs_XPacker_87 zq_XPacker_guess rfl rfl ⟨(Nat.le_of_ble_eq_true rfl), (Nat.le_of_ble_eq_true rfl)⟩ (Nat.le_of_ble_eq_true rfl) ⟨(Nat.le_of_ble_eq_true rfl), (Nat.le_of_ble_eq_true rfl)⟩ ?_
        refine zr_isub F zd_XPacker_filtered_92 ?_
        refine zr_sipushv (v := 255) F zd_XPacker_filtered_93 (by decide) ?_
        refine zr_iand F zd_XPacker_filtered_96 ?_
        obtain rfl := Option.some.inj h
        exact zr_iret F hr zd_XPacker_filtered_97 (Nat.le_of_ble_eq_true rfl) (Nat.le_of_ble_eq_true rfl) ⟨rfl, rfl, rfl⟩
    ·
      rw [if_pos hb11] at h
      refine zr_iconstv (v := 0) F zd_XPacker_filtered_32 (by decide) ?_
      refine zr_goto F 46 zd_XPacker_filtered_33 (by decide) ?_
      refine zr_istore F zd_XPacker_filtered_46 (by decide) ?_
      refine zr_pcn 48 rfl ?_
      refine zr_iload_n F zd_XPacker_filtered_48 rfl ?_
      refine zr_iconstv (v := 3) F zd_XPacker_filtered_49 (by decide) ?_
      refine zr_icmp_lt F 57 zd_XPacker_filtered_50 (by decide) (fun hb43 => ?_) (fun hb43 => ?_)
      ·
        rw [if_pos hb43] at h
        refine zr_iconstv (v := 0) F zd_XPacker_filtered_57 (by decide) ?_
        refine zr_goto F 73 zd_XPacker_filtered_58 (by decide) ?_
        refine zr_istore F zd_XPacker_filtered_73 (by decide) ?_
        refine zr_aload_n F zd_XPacker_filtered_75 rfl ?_
        obtain ⟨le45, hs44, h⟩ := zoS_s h
        obtain ⟨a46, ea46, h⟩ := zoB_s h
        refine zr_get F 4 2 zd_XPacker_filtered_76 (zW_o hs44 (by decide)) rfl (by decide) zw_85 rfl (by rfl) ?_
        refine zr_tor ea46 ?_
        refine zr_pcn 79 rfl ?_
        refine zr_iload F zd_XPacker_filtered_79 rfl ?_
        obtain ⟨le48, hs47, h⟩ := zoS_s h
        obtain ⟨hi49, h⟩ := zoI_s h
        refine zr_iald F zd_XPacker_filtered_81 (zW_a0 hs47) hi49 ?_
        refine zr_iload_n F zd_XPacker_filtered_82 rfl ?_
        refine zr_iload F zd_XPacker_filtered_83 rfl ?_
        refine zr_iload F zd_XPacker_filtered_85 rfl ?_
        refine zr_iload F zd_XPacker_filtered_87 rfl ?_
        refine zr_callS1 F (c_XPacker_guess l D tA b _ _ x0_ x10 0 0) zd_XPacker_filtered_89 zs_XPacker_87 zq_XPacker_guess rfl rfl ⟨(Nat.le_of_ble_eq_true rfl), (Nat.le_of_ble_eq_true rfl)⟩ (Nat.le_of_ble_eq_true rfl) ⟨(Nat.le_of_ble_eq_true rfl), (Nat.le_of_ble_eq_true rfl)⟩ ?_
        refine zr_isub F zd_XPacker_filtered_92 ?_
        refine zr_pcn 93 rfl ?_
        refine zr_sipushv (v := 255) F zd_XPacker_filtered_93 (by decide) ?_
        refine zr_iand F zd_XPacker_filtered_96 ?_
        obtain rfl := Option.some.inj h
        exact zr_iret F hr zd_XPacker_filtered_97 (Nat.le_of_ble_eq_true rfl) (Nat.le_of_ble_eq_true rfl) ⟨rfl, rfl, rfl⟩
      ·
        rw [if_neg hb43] at h
        refine zr_iload_n F zd_XPacker_filtered_53 rfl ?_
        refine zr_if_ne F 61 zd_XPacker_filtered_54 (by decide) (fun hq => absurd hb11 hq) (fun _ => ?_)
        refine zr_iconstv (v := 0) F zd_XPacker_filtered_57 (by decide) ?_
        refine zr_goto F 73 zd_XPacker_filtered_58 (by decide) ?_
        refine zr_istore F zd_XPacker_filtered_73 (by decide) ?_
        refine zr_pcn 75 rfl ?_
        refine zr_aload_n F zd_XPacker_filtered_75 rfl ?_
        obtain ⟨le52, hs51, h⟩ := zoS_s h
        obtain ⟨a53, ea53, h⟩ := zoB_s h
        refine zr_get F 4 2 zd_XPacker_filtered_76 (zW_o hs51 (by decide)) rfl (by decide) zw_85 rfl (by rfl) ?_
        refine zr_tor ea53 ?_
        refine zr_iload F zd_XPacker_filtered_79 rfl ?_
        obtain ⟨le55, hs54, h⟩ := zoS_s h
        obtain ⟨hi56, h⟩ := zoI_s h
        refine zr_iald F zd_XPacker_filtered_81 (zW_a0 hs54) hi56 ?_
        refine zr_iload_n F zd_XPacker_filtered_82 rfl ?_
        refine zr_iload F zd_XPacker_filtered_83 rfl ?_
        refine zr_iload F zd_XPacker_filtered_85 rfl ?_
        refine zr_iload F zd_XPacker_filtered_87 rfl ?_
        refine zr_pcn 89 rfl ?_
        refine zr_callS1 F (c_XPacker_guess l D tA b _ _ x0_ x10 0 0) zd_XPacker_filtered_89 zs_XPacker_87 zq_XPacker_guess rfl rfl ⟨(Nat.le_of_ble_eq_true rfl), (Nat.le_of_ble_eq_true rfl)⟩ (Nat.le_of_ble_eq_true rfl) ⟨(Nat.le_of_ble_eq_true rfl), (Nat.le_of_ble_eq_true rfl)⟩ ?_
        refine zr_isub F zd_XPacker_filtered_92 ?_
        refine zr_sipushv (v := 255) F zd_XPacker_filtered_93 (by decide) ?_
        refine zr_iand F zd_XPacker_filtered_96 ?_
        obtain rfl := Option.some.inj h
        exact zr_iret F hr zd_XPacker_filtered_97 (Nat.le_of_ble_eq_true rfl) (Nat.le_of_ble_eq_true rfl) ⟨rfl, rfl, rfl⟩
  ·
    rw [if_neg hb2] at h
    refine zr_iconstv (v := 0) F zd_XPacker_filtered_13 (by decide) ?_
    refine zr_goto F 26 zd_XPacker_filtered_14 (by decide) ?_
    refine zr_istore F zd_XPacker_filtered_26 (by decide) ?_
    refine zr_pcn 28 rfl ?_
    refine zr_iload_n F zd_XPacker_filtered_28 rfl ?_
    refine zr_if_ne F 36 zd_XPacker_filtered_29 (by decide) (fun hb58 => ?_) (fun hb58 => ?_)
    ·
      rw [if_neg hb58] at h
      refine zr_aload_n F zd_XPacker_filtered_36 rfl ?_
      obtain ⟨le60, hs59, h⟩ := zoS_s h
      obtain ⟨a61, ea61, h⟩ := zoB_s h
      refine zr_get F 4 2 zd_XPacker_filtered_37 (zW_o hs59 (by decide)) rfl (by decide) zw_85 rfl (by rfl) ?_
      refine zr_tor ea61 ?_
      refine zr_iload F zd_XPacker_filtered_40 rfl ?_
      refine zr_iload F zd_XPacker_filtered_42 rfl ?_
      refine zr_isub F zd_XPacker_filtered_44 ?_
      obtain ⟨i62, ei62, h⟩ := zoL_s h
      rw [← ei62]
      obtain ⟨le64, hs63, h⟩ := zoS_s h
      obtain ⟨hi65, h⟩ := zoI_s h
      refine zr_iald F zd_XPacker_filtered_45 (zW_a0 hs63) hi65 ?_
      refine zr_pcn 46 rfl ?_
      obtain ⟨x66, ex66, h⟩ := zoL_s h
      rw [← ex66]
      refine zr_istore F zd_XPacker_filtered_46 (by decide) ?_
      refine zr_iload_n F zd_XPacker_filtered_48 rfl ?_
      refine zr_iconstv (v := 3) F zd_XPacker_filtered_49 (by decide) ?_
      refine zr_icmp_lt F 57 zd_XPacker_filtered_50 (by decide) (fun hb67 => ?_) (fun hb67 => ?_)
      ·
        rw [if_pos hb67] at h
        refine zr_iconstv (v := 0) F zd_XPacker_filtered_57 (by decide) ?_
        refine zr_goto F 73 zd_XPacker_filtered_58 (by decide) ?_
        refine zr_istore F zd_XPacker_filtered_73 (by decide) ?_
        refine zr_aload_n F zd_XPacker_filtered_75 rfl ?_
        refine zr_pcn 76 rfl ?_
        obtain ⟨le69, hs68, h⟩ := zoS_s h
        obtain ⟨a70, ea70, h⟩ := zoB_s h
        refine zr_get F 4 2 zd_XPacker_filtered_76 (zW_o hs68 (by decide)) rfl (by decide) zw_85 rfl (by rfl) ?_
        refine zr_tor ea70 ?_
        refine zr_iload F zd_XPacker_filtered_79 rfl ?_
        obtain ⟨le72, hs71, h⟩ := zoS_s h
        obtain ⟨hi73, h⟩ := zoI_s h
        refine zr_iald F zd_XPacker_filtered_81 (zW_a0 hs71) hi73 ?_
        refine zr_iload_n F zd_XPacker_filtered_82 rfl ?_
        refine zr_iload F zd_XPacker_filtered_83 rfl ?_
        refine zr_iload F zd_XPacker_filtered_85 rfl ?_
        refine zr_iload F zd_XPacker_filtered_87 rfl ?_
        refine zr_callS1 F (c_XPacker_guess l D tA b _ _ x0_ 0 x66 0) zd_XPacker_filtered_89 zs_XPacker_87 zq_XPacker_guess rfl rfl ⟨(Nat.le_of_ble_eq_true rfl), (Nat.le_of_ble_eq_true rfl)⟩ (Nat.le_of_ble_eq_true rfl) ⟨(Nat.le_of_ble_eq_true rfl), (Nat.le_of_ble_eq_true rfl)⟩ ?_
        refine zr_pcn 92 rfl ?_
        refine zr_isub F zd_XPacker_filtered_92 ?_
        refine zr_sipushv (v := 255) F zd_XPacker_filtered_93 (by decide) ?_
        refine zr_iand F zd_XPacker_filtered_96 ?_
        obtain rfl := Option.some.inj h
        exact zr_iret F hr zd_XPacker_filtered_97 (Nat.le_of_ble_eq_true rfl) (Nat.le_of_ble_eq_true rfl) ⟨rfl, rfl, rfl⟩
      ·
        rw [if_neg hb67] at h
        refine zr_iload_n F zd_XPacker_filtered_53 rfl ?_
        refine zr_if_ne F 61 zd_XPacker_filtered_54 (by decide) (fun _ => ?_) (fun hq => absurd hq hb58)
        refine zr_aload_n F zd_XPacker_filtered_61 rfl ?_
        obtain ⟨le76, hs75, h⟩ := zoS_s h
        obtain ⟨a77, ea77, h⟩ := zoB_s h
        refine zr_get F 4 2 zd_XPacker_filtered_62 (zW_o hs75 (by decide)) rfl (by decide) zw_85 rfl (by rfl) ?_
        refine zr_tor ea77 ?_
        refine zr_pcn 65 rfl ?_
        refine zr_iload F zd_XPacker_filtered_65 rfl ?_
        refine zr_iload F zd_XPacker_filtered_67 rfl ?_
        refine zr_isub F zd_XPacker_filtered_69 ?_
        refine zr_iconstv (v := 3) F zd_XPacker_filtered_70 (by decide) ?_
        refine zr_isub F zd_XPacker_filtered_71 ?_
        obtain ⟨i78, ei78, h⟩ := zoL_s h
        rw [← ei78]
        obtain ⟨le80, hs79, h⟩ := zoS_s h
        obtain ⟨hi81, h⟩ := zoI_s h
        refine zr_iald F zd_XPacker_filtered_72 (zW_a0 hs79) hi81 ?_
        obtain ⟨x82, ex82, h⟩ := zoL_s h
        rw [← ex82]
        refine zr_istore F zd_XPacker_filtered_73 (by decide) ?_
        refine zr_aload_n F zd_XPacker_filtered_75 rfl ?_
        refine zr_pcn 76 rfl ?_
        obtain ⟨le84, hs83, h⟩ := zoS_s h
        obtain ⟨a85, ea85, h⟩ := zoB_s h
        refine zr_get F 4 2 zd_XPacker_filtered_76 (zW_o hs83 (by decide)) rfl (by decide) zw_85 rfl (by rfl) ?_
        refine zr_tor ea85 ?_
        refine zr_iload F zd_XPacker_filtered_79 rfl ?_
        obtain ⟨le87, hs86, h⟩ := zoS_s h
        obtain ⟨hi88, h⟩ := zoI_s h
        refine zr_iald F zd_XPacker_filtered_81 (zW_a0 hs86) hi88 ?_
        refine zr_iload_n F zd_XPacker_filtered_82 rfl ?_
        refine zr_iload F zd_XPacker_filtered_83 rfl ?_
        refine zr_iload F zd_XPacker_filtered_85 rfl ?_
        refine zr_iload F zd_XPacker_filtered_87 rfl ?_
        refine zr_callS1 F (c_XPacker_guess l D tA b _ _ x0_ 0 x66 x82) zd_XPacker_filtered_89 zs_XPacker_87 zq_XPacker_guess rfl rfl ⟨(Nat.le_of_ble_eq_true rfl), (Nat.le_of_ble_eq_true rfl)⟩ (Nat.le_of_ble_eq_true rfl) ⟨(Nat.le_of_ble_eq_true rfl), (Nat.le_of_ble_eq_true rfl)⟩ ?_
        refine zr_pcn 92 rfl ?_
        refine zr_isub F zd_XPacker_filtered_92 ?_
        refine zr_sipushv (v := 255) F zd_XPacker_filtered_93 (by decide) ?_
        refine zr_iand F zd_XPacker_filtered_96 ?_
        obtain rfl := Option.some.inj h
        exact zr_iret F hr zd_XPacker_filtered_97 (Nat.le_of_ble_eq_true rfl) (Nat.le_of_ble_eq_true rfl) ⟨rfl, rfl, rfl⟩
    ·
      rw [if_pos hb58] at h
      refine zr_iconstv (v := 0) F zd_XPacker_filtered_32 (by decide) ?_
      refine zr_goto F 46 zd_XPacker_filtered_33 (by decide) ?_
      refine zr_istore F zd_XPacker_filtered_46 (by decide) ?_
      refine zr_iload_n F zd_XPacker_filtered_48 rfl ?_
      refine zr_pcn 49 rfl ?_
      refine zr_iconstv (v := 3) F zd_XPacker_filtered_49 (by decide) ?_
      refine zr_icmp_lt F 57 zd_XPacker_filtered_50 (by decide) (fun hb90 => ?_) (fun hb90 => ?_)
      ·
        rw [if_pos hb90] at h
        refine zr_iconstv (v := 0) F zd_XPacker_filtered_57 (by decide) ?_
        refine zr_goto F 73 zd_XPacker_filtered_58 (by decide) ?_
        refine zr_istore F zd_XPacker_filtered_73 (by decide) ?_
        refine zr_aload_n F zd_XPacker_filtered_75 rfl ?_
        obtain ⟨le92, hs91, h⟩ := zoS_s h
        obtain ⟨a93, ea93, h⟩ := zoB_s h
        refine zr_get F 4 2 zd_XPacker_filtered_76 (zW_o hs91 (by decide)) rfl (by decide) zw_85 rfl (by rfl) ?_
        refine zr_tor ea93 ?_
        refine zr_iload F zd_XPacker_filtered_79 rfl ?_
        refine zr_pcn 81 rfl ?_
        obtain ⟨le95, hs94, h⟩ := zoS_s h
        obtain ⟨hi96, h⟩ := zoI_s h
        refine zr_iald F zd_XPacker_filtered_81 (zW_a0 hs94) hi96 ?_
        refine zr_iload_n F zd_XPacker_filtered_82 rfl ?_
        refine zr_iload F zd_XPacker_filtered_83 rfl ?_
        refine zr_iload F zd_XPacker_filtered_85 rfl ?_
        refine zr_iload F zd_XPacker_filtered_87 rfl ?_
        refine zr_callS1 F (c_XPacker_guess l D tA b _ _ x0_ 0 0 0) zd_XPacker_filtered_89 zs_XPacker_87 zq_XPacker_guess rfl rfl ⟨(Nat.le_of_ble_eq_true rfl), (Nat.le_of_ble_eq_true rfl)⟩ (Nat.le_of_ble_eq_true rfl) ⟨(Nat.le_of_ble_eq_true rfl), (Nat.le_of_ble_eq_true rfl)⟩ ?_
        refine zr_isub F zd_XPacker_filtered_92 ?_
        refine zr_sipushv (v := 255) F zd_XPacker_filtered_93 (by decide) ?_
        refine zr_pcn 96 rfl ?_
        refine zr_iand F zd_XPacker_filtered_96 ?_
        obtain rfl := Option.some.inj h
        exact zr_iret F hr zd_XPacker_filtered_97 (Nat.le_of_ble_eq_true rfl) (Nat.le_of_ble_eq_true rfl) ⟨rfl, rfl, rfl⟩
      ·
        rw [if_neg hb90] at h
        refine zr_iload_n F zd_XPacker_filtered_53 rfl ?_
        refine zr_if_ne F 61 zd_XPacker_filtered_54 (by decide) (fun hq => absurd hb58 hq) (fun _ => ?_)
        refine zr_iconstv (v := 0) F zd_XPacker_filtered_57 (by decide) ?_
        refine zr_goto F 73 zd_XPacker_filtered_58 (by decide) ?_
        refine zr_istore F zd_XPacker_filtered_73 (by decide) ?_
        refine zr_aload_n F zd_XPacker_filtered_75 rfl ?_
        refine zr_pcn 76 rfl ?_
        obtain ⟨le99, hs98, h⟩ := zoS_s h
        obtain ⟨a100, ea100, h⟩ := zoB_s h
        refine zr_get F 4 2 zd_XPacker_filtered_76 (zW_o hs98 (by decide)) rfl (by decide) zw_85 rfl (by rfl) ?_
        refine zr_tor ea100 ?_
        refine zr_iload F zd_XPacker_filtered_79 rfl ?_
        obtain ⟨le102, hs101, h⟩ := zoS_s h
        obtain ⟨hi103, h⟩ := zoI_s h
        refine zr_iald F zd_XPacker_filtered_81 (zW_a0 hs101) hi103 ?_
        refine zr_iload_n F zd_XPacker_filtered_82 rfl ?_
        refine zr_iload F zd_XPacker_filtered_83 rfl ?_
        refine zr_iload F zd_XPacker_filtered_85 rfl ?_
        refine zr_iload F zd_XPacker_filtered_87 rfl ?_
        refine zr_callS1 F (c_XPacker_guess l D tA b _ _ x0_ 0 0 0) zd_XPacker_filtered_89 zs_XPacker_87 zq_XPacker_guess rfl rfl ⟨(Nat.le_of_ble_eq_true rfl), (Nat.le_of_ble_eq_true rfl)⟩ (Nat.le_of_ble_eq_true rfl) ⟨(Nat.le_of_ble_eq_true rfl), (Nat.le_of_ble_eq_true rfl)⟩ ?_
        refine zr_pcn 92 rfl ?_
        refine zr_isub F zd_XPacker_filtered_92 ?_
        refine zr_sipushv (v := 255) F zd_XPacker_filtered_93 (by decide) ?_
        refine zr_iand F zd_XPacker_filtered_96 ?_
        obtain rfl := Option.some.inj h
        exact zr_iret F hr zd_XPacker_filtered_97 (Nat.le_of_ble_eq_true rfl) (Nat.le_of_ble_eq_true rfl) ⟨rfl, rfl, rfl⟩
abbrev zb_XPacker_putByte : ByteArray := prog_5_method_9_code
def zy_XPacker_putByte : MethodName := ⟨"OrreryBox$Packer", "putByte", "(I)V"⟩
theorem zc_XPacker_putByte : Cond.code zy_XPacker_putByte zb_XPacker_putByte 2 none ∈ gw := gw_t 943 (by decide +kernel) rfl
theorem zq_XPacker_putByte : zy_XPacker_putByte.cls ≠ "java/lang/invoke/MethodHandle" ∧ zy_XPacker_putByte.cls ≠ "java/lang/invoke/VarHandle" ∧ (parseMethodDescriptor zy_XPacker_putByte.desc).map (fun d => d.parameters.length) = some 1 := by decide +kernel
theorem zd_XPacker_putByte_0 : decode zb_XPacker_putByte 0 = .ok (.aload_n 0, 1) := by decide +kernel
theorem zd_XPacker_putByte_1 : decode zb_XPacker_putByte 1 = .ok (.getfield 36, 3) := by decide +kernel
theorem zd_XPacker_putByte_4 : decode zb_XPacker_putByte 4 = .ok (.aload_n 0, 1) := by decide +kernel
theorem zd_XPacker_putByte_5 : decode zb_XPacker_putByte 5 = .ok (.getfield 11, 3) := by decide +kernel
theorem zd_XPacker_putByte_8 : decode zb_XPacker_putByte 8 = .ok (.arraylength, 1) := by decide +kernel
theorem zd_XPacker_putByte_9 : decode zb_XPacker_putByte 9 = .ok (.if_icmp .ge 24, 3) := by decide +kernel
theorem zd_XPacker_putByte_12 : decode zb_XPacker_putByte 12 = .ok (.aload_n 0, 1) := by decide +kernel
theorem zd_XPacker_putByte_13 : decode zb_XPacker_putByte 13 = .ok (.getfield 11, 3) := by decide +kernel
theorem zd_XPacker_putByte_16 : decode zb_XPacker_putByte 16 = .ok (.aload_n 0, 1) := by decide +kernel
theorem zd_XPacker_putByte_17 : decode zb_XPacker_putByte 17 = .ok (.getfield 36, 3) := by decide +kernel
theorem zd_XPacker_putByte_20 : decode zb_XPacker_putByte 20 = .ok (.iload_n 1, 1) := by decide +kernel
theorem zd_XPacker_putByte_21 : decode zb_XPacker_putByte 21 = .ok (.i2b, 1) := by decide +kernel
theorem zd_XPacker_putByte_22 : decode zb_XPacker_putByte 22 = .ok (.bastore, 1) := by decide +kernel
theorem zd_XPacker_putByte_23 : decode zb_XPacker_putByte 23 = .ok (.aload_n 0, 1) := by decide +kernel
theorem zd_XPacker_putByte_24 : decode zb_XPacker_putByte 24 = .ok (.dup, 1) := by decide +kernel
theorem zd_XPacker_putByte_25 : decode zb_XPacker_putByte 25 = .ok (.getfield 36, 3) := by decide +kernel
theorem zd_XPacker_putByte_28 : decode zb_XPacker_putByte 28 = .ok (.iconst 1, 1) := by decide +kernel
theorem zd_XPacker_putByte_29 : decode zb_XPacker_putByte 29 = .ok (.iadd, 1) := by decide +kernel
theorem zd_XPacker_putByte_30 : decode zb_XPacker_putByte 30 = .ok (.putfield 36, 3) := by decide +kernel
theorem zd_XPacker_putByte_33 : decode zb_XPacker_putByte 33 = .ok (.return_, 1) := by decide +kernel
theorem zw_83 : (Jvm.Cond.fieldLink "OrreryBox$Packer" (36 : Nat) "OrreryBox$Packer" "size" "I") ∈ gw := gw_t 83 (by decide +kernel) rfl
theorem zf_I_4_1 (b : Nat) (m : zMem) (k : Nat) (v : Int32) : (zfl b 4 m k).set 1 (.int v) = zfl b 4 (mI m k 1 v) k := by simp [zfl, mI, upd, vp_updL]
def F_XPacker_putByte (sh : zSh) (mm : zMem) (o : Nat) (x0_ : Int32) : Option zMem := zoS (sh o) 4 (fun le2 => zoS (sh o) 4 (fun le4 => Option.bind (mm.2.2 o 0) (fun a5 => zoA (sh a5) (fun t8 le7 => (if (Int32.ofNat le7) ≤ (mm.1 o 1) then some mm else zoS (sh o) 4 (fun le11 => Option.bind (mm.2.2 o 0) (fun a12 => zoS (sh o) 4 (fun le14 => zoL ((x0_ : Int32).toInt8.toInt32) (fun x15 => zoL (mm.1 o 1) (fun i16 => zoS (sh a12) 101 (fun le18 => if (i16 : Int32) < 0 ∨ le18 ≤ (i16 : Int32).toNatClampNeg then none else zoL (mI mm a12 (i16 : Int32).toNatClampNeg (vp_nar .byte x15)) (fun mm20 => zoS (sh o) 4 (fun le22 => zoL ((mm20.1 o 1) + 1) (fun x23 => zoS (sh o) 4 (fun le25 => zoL (mI mm20 o 1 x23) (fun mm26 => some mm26))))))))))))))))
set_option maxHeartbeats 4000000 in
set_option maxRecDepth 100000 in
theorem k_XPacker_putByte (l : Launch) (D : va_G) (tA : Nat → ClassId) (b : Nat) (sh : zSh) (n : Nat) {mm : zMem} {o : Nat} {x0_ : Int32} {r : zMem} (h : F_XPacker_putByte sh mm o x0_ = some r) : zM l D tA b zy_XPacker_putByte zb_XPacker_putByte 2 none 0 0 0 0 [.ref (b + o), .int x0_] (zW tA b sh mm) n (zE none (zW tA b sh r) n) := by
  unfold F_XPacker_putByte at h
  refine zM_of (own := "OrreryBox$Packer") (plainFor_of_name (by decide)) rfl (Nat.le_of_ble_eq_true rfl) (fun p e s m below meth c F hr hin hH => ?_)
  refine zr_aload_n F zd_XPacker_putByte_0 rfl ?_
  obtain ⟨le2, hs1, h⟩ := zoS_s h
  refine zr_get F 4 1 zd_XPacker_putByte_1 (zW_o hs1 (by decide)) rfl (by decide) zw_83 rfl (by rfl) ?_
  refine zr_aload_n F zd_XPacker_putByte_4 rfl ?_
  obtain ⟨le4, hs3, h⟩ := zoS_s h
  obtain ⟨a5, ea5, h⟩ := zoB_s h
  refine zr_get F 4 0 zd_XPacker_putByte_5 (zW_o hs3 (by decide)) rfl (by decide) zw_81 rfl (by rfl) ?_
  refine zr_tor ea5 ?_
  obtain ⟨t8, le7, hs6, h⟩ := zoA_s h
  refine zr_lenW F zd_XPacker_putByte_8 hs6 ?_
  refine zr_icmp_ge F 33 zd_XPacker_putByte_9 (by decide) (fun hb9 => ?_) (fun hb9 => ?_)
  ·
    rw [if_pos hb9] at h
    obtain rfl := Option.some.inj h
    exact zr_vret F hr zd_XPacker_putByte_33 (Nat.le_of_ble_eq_true rfl) (Nat.le_of_ble_eq_true rfl) ⟨rfl, rfl, rfl⟩
  ·
    rw [if_neg hb9] at h
    refine zr_pcn 12 rfl ?_
    refine zr_aload_n F zd_XPacker_putByte_12 rfl ?_
    obtain ⟨le11, hs10, h⟩ := zoS_s h
    obtain ⟨a12, ea12, h⟩ := zoB_s h
    refine zr_get F 4 0 zd_XPacker_putByte_13 (zW_o hs10 (by decide)) rfl (by decide) zw_81 rfl (by rfl) ?_
    refine zr_tor ea12 ?_
    refine zr_aload_n F zd_XPacker_putByte_16 rfl ?_
    obtain ⟨le14, hs13, h⟩ := zoS_s h
    refine zr_get F 4 1 zd_XPacker_putByte_17 (zW_o hs13 (by decide)) rfl (by decide) zw_83 rfl (by rfl) ?_
    refine zr_iload_n F zd_XPacker_putByte_20 rfl ?_
    refine zr_i2b F zd_XPacker_putByte_21 ?_
    obtain ⟨x15, ex15, h⟩ := zoL_s h
    rw [← ex15]
    obtain ⟨i16, ei16, h⟩ := zoL_s h
    rw [← ei16]
    obtain ⟨le18, hs17, h⟩ := zoS_s h
    obtain ⟨hi19, h⟩ := zoI_s h
    refine zr_bast F zd_XPacker_putByte_22 (zW_a1 hs17) hi19 ?_
    obtain ⟨mm20, emm20, h⟩ := zoL_s h
    refine zr_norm (zW tA b sh mm20) _ (by rw [emm20]; exact zW_s1 hs17) rfl ?_
    refine zr_aload_n F zd_XPacker_putByte_23 rfl ?_
    refine zr_pcn 24 rfl ?_
    refine zr_dup F zd_XPacker_putByte_24 rfl ?_
    obtain ⟨le22, hs21, h⟩ := zoS_s h
    refine zr_get F 4 1 zd_XPacker_putByte_25 (zW_o hs21 (by decide)) rfl (by decide) zw_83 rfl (by rfl) ?_
    refine zr_iconstv (v := 1) F zd_XPacker_putByte_28 (by decide) ?_
    refine zr_iadd F zd_XPacker_putByte_29 ?_
    obtain ⟨x23, ex23, h⟩ := zoL_s h
    rw [← ex23]
    obtain ⟨le25, hs24, h⟩ := zoS_s h
    refine zr_put F 4 1 zd_XPacker_putByte_30 (zW_o hs24 (by decide)) rfl (by decide) zw_83 rfl rfl rfl rfl (by exact (Nat.le_of_ble_eq_true rfl)) ?_
    obtain ⟨mm26, emm26, h⟩ := zoL_s h
    refine zr_norm (zW tA b sh mm26) _ (by rw [emm26]; exact zW_pI (v := x23) hs24 (by decide) (zf_I_4_1 b _ _ _)) rfl ?_
    obtain rfl := Option.some.inj h
    exact zr_vret F hr zd_XPacker_putByte_33 (Nat.le_of_ble_eq_true rfl) (Nat.le_of_ble_eq_true rfl) ⟨rfl, rfl, rfl⟩
abbrev zb_XPacker_putNumber : ByteArray := prog_5_method_10_code
def zy_XPacker_putNumber : MethodName := ⟨"OrreryBox$Packer", "putNumber", "(I)V"⟩
theorem zc_XPacker_putNumber : Cond.code zy_XPacker_putNumber zb_XPacker_putNumber 2 none ∈ gw := gw_t 939 (by decide +kernel) rfl
theorem zq_XPacker_putNumber : zy_XPacker_putNumber.cls ≠ "java/lang/invoke/MethodHandle" ∧ zy_XPacker_putNumber.cls ≠ "java/lang/invoke/VarHandle" ∧ (parseMethodDescriptor zy_XPacker_putNumber.desc).map (fun d => d.parameters.length) = some 1 := by decide +kernel
theorem zd_XPacker_putNumber_0 : decode zb_XPacker_putNumber 0 = .ok (.aload_n 0, 1) := by decide +kernel
theorem zd_XPacker_putNumber_1 : decode zb_XPacker_putNumber 1 = .ok (.iload_n 1, 1) := by decide +kernel
theorem zd_XPacker_putNumber_2 : decode zb_XPacker_putNumber 2 = .ok (.bipush 24, 2) := by decide +kernel
theorem zd_XPacker_putNumber_4 : decode zb_XPacker_putNumber 4 = .ok (.ishr, 1) := by decide +kernel
theorem zd_XPacker_putNumber_5 : decode zb_XPacker_putNumber 5 = .ok (.invokevirtual 53, 3) := by decide +kernel
theorem zd_XPacker_putNumber_8 : decode zb_XPacker_putNumber 8 = .ok (.aload_n 0, 1) := by decide +kernel
theorem zd_XPacker_putNumber_9 : decode zb_XPacker_putNumber 9 = .ok (.iload_n 1, 1) := by decide +kernel
theorem zd_XPacker_putNumber_10 : decode zb_XPacker_putNumber 10 = .ok (.bipush 16, 2) := by decide +kernel
theorem zd_XPacker_putNumber_12 : decode zb_XPacker_putNumber 12 = .ok (.ishr, 1) := by decide +kernel
theorem zd_XPacker_putNumber_13 : decode zb_XPacker_putNumber 13 = .ok (.invokevirtual 53, 3) := by decide +kernel
theorem zd_XPacker_putNumber_16 : decode zb_XPacker_putNumber 16 = .ok (.aload_n 0, 1) := by decide +kernel
theorem zd_XPacker_putNumber_17 : decode zb_XPacker_putNumber 17 = .ok (.iload_n 1, 1) := by decide +kernel
theorem zd_XPacker_putNumber_18 : decode zb_XPacker_putNumber 18 = .ok (.bipush 8, 2) := by decide +kernel
theorem zd_XPacker_putNumber_20 : decode zb_XPacker_putNumber 20 = .ok (.ishr, 1) := by decide +kernel
theorem zd_XPacker_putNumber_21 : decode zb_XPacker_putNumber 21 = .ok (.invokevirtual 53, 3) := by decide +kernel
theorem zd_XPacker_putNumber_24 : decode zb_XPacker_putNumber 24 = .ok (.aload_n 0, 1) := by decide +kernel
theorem zd_XPacker_putNumber_25 : decode zb_XPacker_putNumber 25 = .ok (.iload_n 1, 1) := by decide +kernel
theorem zd_XPacker_putNumber_26 : decode zb_XPacker_putNumber 26 = .ok (.invokevirtual 53, 3) := by decide +kernel
theorem zd_XPacker_putNumber_29 : decode zb_XPacker_putNumber 29 = .ok (.return_, 1) := by decide +kernel
theorem zw_940 : (Jvm.Cond.methodLink "OrreryBox$Packer" (53 : Nat) ({ cls := "OrreryBox$Packer", name := "putByte", desc := "(I)V" } : Jvm.MethodName)) ∈ gw := gw_t 940 (by decide +kernel) rfl
theorem zw_942 : (Jvm.Cond.instanceMethod ({ cls := "OrreryBox$Packer", name := "putByte", desc := "(I)V" } : Jvm.MethodName)) ∈ gw := gw_t 942 (by decide +kernel) rfl
theorem zv_31 : (Jvm.Cond.selects "OrreryBox$Packer" (⟨"OrreryBox$Packer", "putByte", "(I)V"⟩ : MethodName) ⟨"OrreryBox$Packer", "putByte", "(I)V"⟩) ∈ gw := gw_s 31 (by decide +kernel) rfl
theorem zs_XPacker_53 : zwV "OrreryBox$Packer" 53 "OrreryBox$Packer" zy_XPacker_putByte zb_XPacker_putByte 2 none := ⟨zw_940, zw_942, zv_31, zw_3, zc_XPacker_putByte⟩
def F_XPacker_putNumber (sh : zSh) (mm : zMem) (o : Nat) (x0_ : Int32) : Option zMem := zoS (sh o) 4 (fun le2 => Option.bind (F_XPacker_putByte sh mm o (x0_ >>> (24 &&& 31))) (fun p3 => zoS (sh o) 4 (fun le5 => Option.bind (F_XPacker_putByte sh p3 o (x0_ >>> (16 &&& 31))) (fun p6 => zoS (sh o) 4 (fun le8 => Option.bind (F_XPacker_putByte sh p6 o (x0_ >>> (8 &&& 31))) (fun p9 => zoS (sh o) 4 (fun le11 => Option.bind (F_XPacker_putByte sh p9 o x0_) (fun p12 => some p12))))))))
set_option maxHeartbeats 4000000 in
set_option maxRecDepth 100000 in
theorem k_XPacker_putNumber (l : Launch) (D : va_G) (tA : Nat → ClassId) (b : Nat) (sh : zSh) (n : Nat) {mm : zMem} {o : Nat} {x0_ : Int32} {r : zMem} (h : F_XPacker_putNumber sh mm o x0_ = some r) : zM l D tA b zy_XPacker_putNumber zb_XPacker_putNumber 2 none 1 21 0 0 [.ref (b + o), .int x0_] (zW tA b sh mm) n (zE none (zW tA b sh r) n) := by
  unfold F_XPacker_putNumber at h
  refine zM_of (own := "OrreryBox$Packer") (plainFor_of_name (by decide)) rfl (Nat.le_of_ble_eq_true rfl) (fun p e s m below meth c F hr hin hH => ?_)
  refine zr_aload_n F zd_XPacker_putNumber_0 rfl ?_
  refine zr_iload_n F zd_XPacker_putNumber_1 rfl ?_
  refine zr_bipushv (v := 24) F zd_XPacker_putNumber_2 (by decide) ?_
  refine zr_ishr F zd_XPacker_putNumber_4 ?_
  obtain ⟨le2, hs1, h⟩ := zoS_s h
  obtain ⟨p3, ep3, h⟩ := zoB_s h
  refine zr_callV0 F (k_XPacker_putByte l D tA b sh _ ep3) zd_XPacker_putNumber_5 (zW_o hs1 (by decide)) rfl zs_XPacker_53 rfl zq_XPacker_putByte rfl rfl ⟨(Nat.le_of_ble_eq_true rfl), (Nat.le_of_ble_eq_true rfl)⟩ (Nat.le_of_ble_eq_true rfl) ⟨(Nat.le_of_ble_eq_true rfl), (Nat.le_of_ble_eq_true rfl)⟩ ?_
  refine zr_aload_n F zd_XPacker_putNumber_8 rfl ?_
  refine zr_iload_n F zd_XPacker_putNumber_9 rfl ?_
  refine zr_pcn 10 rfl ?_
  refine zr_bipushv (v := 16) F zd_XPacker_putNumber_10 (by decide) ?_
  refine zr_ishr F zd_XPacker_putNumber_12 ?_
  obtain ⟨le5, hs4, h⟩ := zoS_s h
  obtain ⟨p6, ep6, h⟩ := zoB_s h
  refine zr_callV0 F (k_XPacker_putByte l D tA b sh _ ep6) zd_XPacker_putNumber_13 (zW_o hs4 (by decide)) rfl zs_XPacker_53 rfl zq_XPacker_putByte rfl rfl ⟨(Nat.le_of_ble_eq_true rfl), (Nat.le_of_ble_eq_true rfl)⟩ (Nat.le_of_ble_eq_true rfl) ⟨(Nat.le_of_ble_eq_true rfl), (Nat.le_of_ble_eq_true rfl)⟩ ?_
  refine zr_aload_n F zd_XPacker_putNumber_16 rfl ?_
  refine zr_iload_n F zd_XPacker_putNumber_17 rfl ?_
  refine zr_bipushv (v := 8) F zd_XPacker_putNumber_18 (by decide) ?_
  refine zr_ishr F zd_XPacker_putNumber_20 ?_
  obtain ⟨le8, hs7, h⟩ := zoS_s h
  obtain ⟨p9, ep9, h⟩ := zoB_s h
  refine zr_callV0 F (k_XPacker_putByte l D tA b sh _ ep9) zd_XPacker_putNumber_21 (zW_o hs7 (by decide)) rfl zs_XPacker_53 rfl zq_XPacker_putByte rfl rfl ⟨(Nat.le_of_ble_eq_true rfl), (Nat.le_of_ble_eq_true rfl)⟩ (Nat.le_of_ble_eq_true rfl) ⟨(Nat.le_of_ble_eq_true rfl), (Nat.le_of_ble_eq_true rfl)⟩ ?_
  refine zr_pcn 24 rfl ?_
  refine zr_aload_n F zd_XPacker_putNumber_24 rfl ?_
  refine zr_iload_n F zd_XPacker_putNumber_25 rfl ?_
  obtain ⟨le11, hs10, h⟩ := zoS_s h
  obtain ⟨p12, ep12, h⟩ := zoB_s h
  refine zr_callV0 F (k_XPacker_putByte l D tA b sh _ ep12) zd_XPacker_putNumber_26 (zW_o hs10 (by decide)) rfl zs_XPacker_53 rfl zq_XPacker_putByte rfl rfl ⟨(Nat.le_of_ble_eq_true rfl), (Nat.le_of_ble_eq_true rfl)⟩ (Nat.le_of_ble_eq_true rfl) ⟨(Nat.le_of_ble_eq_true rfl), (Nat.le_of_ble_eq_true rfl)⟩ ?_
  obtain rfl := Option.some.inj h
  exact zr_vret F hr zd_XPacker_putNumber_29 (Nat.le_of_ble_eq_true rfl) (Nat.le_of_ble_eq_true rfl) ⟨rfl, rfl, rfl⟩
abbrev zb_XPacker_openChunk : ByteArray := prog_5_method_11_code
def zy_XPacker_openChunk : MethodName := ⟨"OrreryBox$Packer", "openChunk", "(Ljava/lang/String;)I"⟩
theorem zc_XPacker_openChunk : Cond.code zy_XPacker_openChunk zb_XPacker_openChunk 4 (some .int) ∈ gw := gw_t 949 (by decide +kernel) rfl
theorem zq_XPacker_openChunk : zy_XPacker_openChunk.cls ≠ "java/lang/invoke/MethodHandle" ∧ zy_XPacker_openChunk.cls ≠ "java/lang/invoke/VarHandle" ∧ (parseMethodDescriptor zy_XPacker_openChunk.desc).map (fun d => d.parameters.length) = some 1 := by decide +kernel
theorem zd_XPacker_openChunk_0 : decode zb_XPacker_openChunk 0 = .ok (.aload_n 0, 1) := by decide +kernel
theorem zd_XPacker_openChunk_1 : decode zb_XPacker_openChunk 1 = .ok (.getfield 36, 3) := by decide +kernel
theorem zd_XPacker_openChunk_4 : decode zb_XPacker_openChunk 4 = .ok (.istore_n 2, 1) := by decide +kernel
theorem zd_XPacker_openChunk_5 : decode zb_XPacker_openChunk 5 = .ok (.aload_n 0, 1) := by decide +kernel
theorem zd_XPacker_openChunk_6 : decode zb_XPacker_openChunk 6 = .ok (.iconst 0, 1) := by decide +kernel
theorem zd_XPacker_openChunk_7 : decode zb_XPacker_openChunk 7 = .ok (.invokevirtual 41, 3) := by decide +kernel
theorem zd_XPacker_openChunk_10 : decode zb_XPacker_openChunk 10 = .ok (.iconst 0, 1) := by decide +kernel
theorem zd_XPacker_openChunk_11 : decode zb_XPacker_openChunk 11 = .ok (.istore_n 3, 1) := by decide +kernel
theorem zd_XPacker_openChunk_12 : decode zb_XPacker_openChunk 12 = .ok (.iload_n 3, 1) := by decide +kernel
theorem zd_XPacker_openChunk_13 : decode zb_XPacker_openChunk 13 = .ok (.aload_n 1, 1) := by decide +kernel
theorem zd_XPacker_openChunk_14 : decode zb_XPacker_openChunk 14 = .ok (.invokevirtual 98, 3) := by decide +kernel
theorem zd_XPacker_openChunk_17 : decode zb_XPacker_openChunk 17 = .ok (.if_icmp .ge 18, 3) := by decide +kernel
theorem zd_XPacker_openChunk_20 : decode zb_XPacker_openChunk 20 = .ok (.aload_n 0, 1) := by decide +kernel
theorem zd_XPacker_openChunk_21 : decode zb_XPacker_openChunk 21 = .ok (.aload_n 1, 1) := by decide +kernel
theorem zd_XPacker_openChunk_22 : decode zb_XPacker_openChunk 22 = .ok (.iload_n 3, 1) := by decide +kernel
theorem zd_XPacker_openChunk_23 : decode zb_XPacker_openChunk 23 = .ok (.invokevirtual 103, 3) := by decide +kernel
theorem zd_XPacker_openChunk_26 : decode zb_XPacker_openChunk 26 = .ok (.invokevirtual 53, 3) := by decide +kernel
theorem zd_XPacker_openChunk_29 : decode zb_XPacker_openChunk 29 = .ok (.iinc 3 1, 3) := by decide +kernel
theorem zd_XPacker_openChunk_32 : decode zb_XPacker_openChunk 32 = .ok (.goto (-20), 3) := by decide +kernel
theorem zd_XPacker_openChunk_35 : decode zb_XPacker_openChunk 35 = .ok (.iload_n 2, 1) := by decide +kernel
theorem zd_XPacker_openChunk_36 : decode zb_XPacker_openChunk 36 = .ok (.ireturn, 1) := by decide +kernel
theorem zw_936 : (Jvm.Cond.methodLink "OrreryBox$Packer" (41 : Nat) ({ cls := "OrreryBox$Packer", name := "putNumber", desc := "(I)V" } : Jvm.MethodName)) ∈ gw := gw_t 936 (by decide +kernel) rfl
theorem zw_938 : (Jvm.Cond.instanceMethod ({ cls := "OrreryBox$Packer", name := "putNumber", desc := "(I)V" } : Jvm.MethodName)) ∈ gw := gw_t 938 (by decide +kernel) rfl
theorem zv_30 : (Jvm.Cond.selects "OrreryBox$Packer" (⟨"OrreryBox$Packer", "putNumber", "(I)V"⟩ : MethodName) ⟨"OrreryBox$Packer", "putNumber", "(I)V"⟩) ∈ gw := gw_s 30 (by decide +kernel) rfl
theorem zs_XPacker_41 : zwV "OrreryBox$Packer" 41 "OrreryBox$Packer" zy_XPacker_putNumber zb_XPacker_putNumber 2 none := ⟨zw_936, zw_938, zv_30, zw_3, zc_XPacker_putNumber⟩
theorem zw_950 : (Jvm.Cond.methodLink "OrreryBox$Packer" (98 : Nat) ({ cls := "java/lang/String", name := "length", desc := "()I" } : Jvm.MethodName)) ∈ gw := gw_t 950 (by decide +kernel) rfl
theorem zw_951 : (Jvm.Cond.instanceMethod ({ cls := "java/lang/String", name := "length", desc := "()I" } : Jvm.MethodName)) ∈ gw := gw_t 951 (by decide +kernel) rfl
theorem zw_952 : (Jvm.Cond.selects "java/lang/String" ({ cls := "java/lang/String", name := "length", desc := "()I" } : Jvm.MethodName) ({ cls := "java/lang/String", name := "length", desc := "()I" } : Jvm.MethodName)) ∈ gw := gw_t 952 (by decide +kernel) rfl
theorem zs_XPacker_98 : zwV "OrreryBox$Packer" 98 "java/lang/String" zy_JString_length zb_JString_length 1 (some .int) := ⟨zw_950, zw_951, zw_952, zw_22, zc_JString_length⟩
theorem zw_960 : (Jvm.Cond.methodLink "OrreryBox$Packer" (103 : Nat) ({ cls := "java/lang/String", name := "charAt", desc := "(I)C" } : Jvm.MethodName)) ∈ gw := gw_t 960 (by decide +kernel) rfl
theorem zw_961 : (Jvm.Cond.instanceMethod ({ cls := "java/lang/String", name := "charAt", desc := "(I)C" } : Jvm.MethodName)) ∈ gw := gw_t 961 (by decide +kernel) rfl
theorem zw_962 : (Jvm.Cond.selects "java/lang/String" ({ cls := "java/lang/String", name := "charAt", desc := "(I)C" } : Jvm.MethodName) ({ cls := "java/lang/String", name := "charAt", desc := "(I)C" } : Jvm.MethodName)) ∈ gw := gw_t 962 (by decide +kernel) rfl
theorem zs_XPacker_103 : zwV "OrreryBox$Packer" 103 "java/lang/String" zy_JString_charAt zb_JString_charAt 2 (some .char) := ⟨zw_960, zw_961, zw_962, zw_22, zc_JString_charAt⟩
def L_XPacker_openChunk_12 (sh : zSh) (fuel : Nat) (v0 : Nat) (v1 : Nat) (v2 : Int32) (v3 : Int32) (mm : zMem) : Option (Nat × Nat × Int32 × Int32 × zMem) := match fuel with
  | 0 => none
  | fu + 1 => (if v1 < 67 then (if (ztxn v1) ≤ v3 then some (v0, v1, v2, v3, mm) else (if v1 < 67 ∧ ¬ (v3 : Int32) < 0 ∧ (v3 : Int32) < ztxn v1 then zoS (sh v0) 4 (fun le11 => zoL (ztxc v1 (v3 : Int32).toNatClampNeg) (fun x12 => Option.bind (F_XPacker_putByte sh mm v0 x12) (fun p13 => L_XPacker_openChunk_12 sh fu v0 v1 v2 (v3 + 1) p13))) else none)) else none)
set_option maxHeartbeats 4000000 in
set_option maxRecDepth 100000 in
theorem lp_XPacker_openChunk_12 {p : Program} {l : Launch} {e : Env} {s : State} {m : MethodId} {args : Array Value} {below : List Frame} {meth : Method} {c : Code} {D : va_G} {tA : Nat → ClassId} {b n : Nat} {post : Option Value → zV → Nat → Prop} {sh : zSh} (F : zF p s m args meth c zb_XPacker_openChunk 4 "OrreryBox$Packer" D tA b) : ∀ (fuel : Nat) (v0 : Nat) (v1 : Nat) (v2 : Int32) (v3 : Int32) (mm : zMem) (r : Nat × Nat × Int32 × Int32 × zMem), L_XPacker_openChunk_12 sh fuel v0 v1 v2 v3 mm = some r → (Z p l e { frames := 4, cells := 0, slots := 0, locals := 85 } s m args below meth c D b 4 (MQ below (zQ D b post) args s 0 0 (fun q => b ≤ q)) (zW tA b sh r.2.2.2.2) n 0 0 35 [(0, .ref (b + (r.1))), (1, .ref (D.2 1000 (r.2.1))), (2, .int (r.2.2.1)), (3, .int (r.2.2.2.1))] []) → Z p l e { frames := 4, cells := 0, slots := 0, locals := 85 } s m args below meth c D b 4 (MQ below (zQ D b post) args s 0 0 (fun q => b ≤ q)) (zW tA b sh mm) n 0 0 12 [(0, .ref (b + v0)), (1, .ref (D.2 1000 v1)), (2, .int v2), (3, .int v3)] [] := by
  intro fuel
  induction fuel with
  | zero =>
    intro v0 v1 v2 v3 mm r h
    cases h
  | succ fu ih =>
    intro v0 v1 v2 v3 mm r h hx0
    rw [L_XPacker_openChunk_12] at h
    refine zr_iload_n F zd_XPacker_openChunk_12 rfl ?_
    refine zr_aload_n F zd_XPacker_openChunk_13 rfl ?_
    obtain ⟨hg7, h⟩ := zoT_s h
    refine zr_callT F hg7 (c_JString_length l D tA b _ _ v1 hg7) zd_XPacker_openChunk_14 zs_XPacker_98 rfl zq_JString_length rfl rfl ⟨(Nat.le_of_ble_eq_true rfl), (Nat.le_of_ble_eq_true rfl)⟩ (Nat.le_of_ble_eq_true rfl) ⟨(Nat.le_of_ble_eq_true rfl), (Nat.le_of_ble_eq_true rfl)⟩ ?_
    refine zr_icmp_ge F 35 zd_XPacker_openChunk_17 (by decide) (fun hb8 => ?_) (fun hb8 => ?_)
    ·
      rw [if_pos hb8] at h
      obtain rfl := Option.some.inj h
      refine zr_loc (L' := [(0, .ref (b + v0)), (1, .ref (D.2 1000 v1)), (2, .int v2), (3, .int v3)]) ⟨rfl, rfl, rfl, rfl, trivial⟩ ?_
      exact hx0 
    ·
      rw [if_neg hb8] at h
      refine zr_aload_n F zd_XPacker_openChunk_20 rfl ?_
      refine zr_aload_n F zd_XPacker_openChunk_21 rfl ?_
      refine zr_iload_n F zd_XPacker_openChunk_22 rfl ?_
      refine zr_pcn 23 rfl ?_
      obtain ⟨hg9, h⟩ := zoT_s h
      refine zr_callT F hg9.1 (c_JString_charAt l D tA b _ _ v1 v3 hg9.1 hg9.2.1 hg9.2.2) zd_XPacker_openChunk_23 zs_XPacker_103 rfl zq_JString_charAt rfl rfl ⟨(Nat.le_of_ble_eq_true rfl), (Nat.le_of_ble_eq_true rfl)⟩ (Nat.le_of_ble_eq_true rfl) ⟨(Nat.le_of_ble_eq_true rfl), (Nat.le_of_ble_eq_true rfl)⟩ ?_
      obtain ⟨le11, hs10, h⟩ := zoS_s h
      obtain ⟨x12, ex12, h⟩ := zoL_s h
      rw [← ex12]
      obtain ⟨p13, ep13, h⟩ := zoB_s h
      refine zr_callV0 F (k_XPacker_putByte l D tA b sh _ ep13) zd_XPacker_openChunk_26 (zW_o hs10 (by decide)) rfl zs_XPacker_53 rfl zq_XPacker_putByte rfl rfl ⟨(Nat.le_of_ble_eq_true rfl), (Nat.le_of_ble_eq_true rfl)⟩ (Nat.le_of_ble_eq_true rfl) ⟨(Nat.le_of_ble_eq_true rfl), (Nat.le_of_ble_eq_true rfl)⟩ ?_
      refine zr_iinc (v := (v3 + 1)) F zd_XPacker_openChunk_29 rfl rfl (by decide) ?_
      refine zr_goto F 12 zd_XPacker_openChunk_32 (by decide) ?_
      refine zr_loc (L' := [(0, .ref (b + v0)), (1, .ref (D.2 1000 v1)), (2, .int v2), (3, .int (v3 + 1))]) ⟨rfl, rfl, rfl, rfl, trivial⟩ ?_
      exact ih _ _ _ _ _ _ h hx0
def F_XPacker_openChunk (sh : zSh) (mm : zMem) (o : Nat) (x0_ : Nat) : Option (Int32 × zMem) := zoS (sh o) 4 (fun le2 => zoL (mm.1 o 1) (fun x3 => zoS (sh o) 4 (fun le5 => Option.bind (F_XPacker_putNumber sh mm o 0) (fun p6 => Option.bind (L_XPacker_openChunk_12 sh zfuel o x0_ x3 0 p6) (fun q14 => some (q14.2.2.1, q14.2.2.2.2))))))
set_option maxHeartbeats 4000000 in
set_option maxRecDepth 100000 in
theorem k_XPacker_openChunk (l : Launch) (D : va_G) (tA : Nat → ClassId) (b : Nat) (sh : zSh) (n : Nat) {mm : zMem} {o : Nat} {x0_ : Nat} {r : (Int32 × zMem)} (h : F_XPacker_openChunk sh mm o x0_ = some r) : zM l D tA b zy_XPacker_openChunk zb_XPacker_openChunk 4 (some .int) 4 85 0 0 [.ref (b + o), .ref (D.2 1000 x0_)] (zW tA b sh mm) n (zE (some (.int (r.1))) (zW tA b sh r.2) n) := by
  unfold F_XPacker_openChunk at h
  refine zM_of (own := "OrreryBox$Packer") (plainFor_of_name (by decide)) rfl (Nat.le_of_ble_eq_true rfl) (fun p e s m below meth c F hr hin hH => ?_)
  refine zr_aload_n F zd_XPacker_openChunk_0 rfl ?_
  obtain ⟨le2, hs1, h⟩ := zoS_s h
  refine zr_get F 4 1 zd_XPacker_openChunk_1 (zW_o hs1 (by decide)) rfl (by decide) zw_83 rfl (by rfl) ?_
  obtain ⟨x3, ex3, h⟩ := zoL_s h
  rw [← ex3]
  refine zr_istore_n F zd_XPacker_openChunk_4 (by decide) ?_
  refine zr_aload_n F zd_XPacker_openChunk_5 rfl ?_
  refine zr_iconstv (v := 0) F zd_XPacker_openChunk_6 (by decide) ?_
  obtain ⟨le5, hs4, h⟩ := zoS_s h
  obtain ⟨p6, ep6, h⟩ := zoB_s h
  refine zr_callV0 F (k_XPacker_putNumber l D tA b sh _ ep6) zd_XPacker_openChunk_7 (zW_o hs4 (by decide)) rfl zs_XPacker_41 rfl zq_XPacker_putNumber rfl rfl ⟨(Nat.le_of_ble_eq_true rfl), (Nat.le_of_ble_eq_true rfl)⟩ (Nat.le_of_ble_eq_true rfl) ⟨(Nat.le_of_ble_eq_true rfl), (Nat.le_of_ble_eq_true rfl)⟩ ?_
  refine zr_iconstv (v := 0) F zd_XPacker_openChunk_10 (by decide) ?_
  refine zr_pcn 11 rfl ?_
  refine zr_istore_n F zd_XPacker_openChunk_11 (by decide) ?_
  obtain ⟨q14, eq14, h⟩ := zoB_s h
  refine zr_loc (L' := [(0, .ref (b + o)), (1, .ref (D.2 1000 x0_)), (2, .int x3), (3, .int 0)]) ⟨rfl, rfl, rfl, rfl, trivial⟩ ?_
  refine lp_XPacker_openChunk_12 F _ _ _ _ _ _ _ eq14 ?_
  ·
    refine zr_iload_n F zd_XPacker_openChunk_35 rfl ?_
    obtain rfl := Option.some.inj h
    exact zr_iret F hr zd_XPacker_openChunk_36 (Nat.le_of_ble_eq_true rfl) (Nat.le_of_ble_eq_true rfl) ⟨rfl, rfl, rfl⟩
abbrev zb_XPacker_crcWith : ByteArray := prog_5_method_13_code
def zy_XPacker_crcWith : MethodName := ⟨"OrreryBox$Packer", "crcWith", "(II)I"⟩
theorem zc_XPacker_crcWith : Cond.code zy_XPacker_crcWith zb_XPacker_crcWith 4 (some .int) ∈ gw := gw_t 1005 (by decide +kernel) rfl
theorem zq_XPacker_crcWith : zy_XPacker_crcWith.cls ≠ "java/lang/invoke/MethodHandle" ∧ zy_XPacker_crcWith.cls ≠ "java/lang/invoke/VarHandle" ∧ (parseMethodDescriptor zy_XPacker_crcWith.desc).map (fun d => d.parameters.length) = some 2 := by decide +kernel
theorem zd_XPacker_crcWith_0 : decode zb_XPacker_crcWith 0 = .ok (.iload_n 0, 1) := by decide +kernel
theorem zd_XPacker_crcWith_1 : decode zb_XPacker_crcWith 1 = .ok (.iload_n 1, 1) := by decide +kernel
theorem zd_XPacker_crcWith_2 : decode zb_XPacker_crcWith 2 = .ok (.ixor, 1) := by decide +kernel
theorem zd_XPacker_crcWith_3 : decode zb_XPacker_crcWith 3 = .ok (.istore_n 2, 1) := by decide +kernel
theorem zd_XPacker_crcWith_4 : decode zb_XPacker_crcWith 4 = .ok (.iconst 0, 1) := by decide +kernel
theorem zd_XPacker_crcWith_5 : decode zb_XPacker_crcWith 5 = .ok (.istore_n 3, 1) := by decide +kernel
theorem zd_XPacker_crcWith_6 : decode zb_XPacker_crcWith 6 = .ok (.iload_n 3, 1) := by decide +kernel
theorem zd_XPacker_crcWith_7 : decode zb_XPacker_crcWith 7 = .ok (.bipush 8, 2) := by decide +kernel
theorem zd_XPacker_crcWith_9 : decode zb_XPacker_crcWith 9 = .ok (.if_icmp .ge 29, 3) := by decide +kernel
theorem zd_XPacker_crcWith_12 : decode zb_XPacker_crcWith 12 = .ok (.iload_n 2, 1) := by decide +kernel
theorem zd_XPacker_crcWith_13 : decode zb_XPacker_crcWith 13 = .ok (.iconst 1, 1) := by decide +kernel
theorem zd_XPacker_crcWith_14 : decode zb_XPacker_crcWith 14 = .ok (.iand, 1) := by decide +kernel
theorem zd_XPacker_crcWith_15 : decode zb_XPacker_crcWith 15 = .ok (.iconst 1, 1) := by decide +kernel
theorem zd_XPacker_crcWith_16 : decode zb_XPacker_crcWith 16 = .ok (.if_icmp .ne 12, 3) := by decide +kernel
theorem zd_XPacker_crcWith_19 : decode zb_XPacker_crcWith 19 = .ok (.iload_n 2, 1) := by decide +kernel
theorem zd_XPacker_crcWith_20 : decode zb_XPacker_crcWith 20 = .ok (.iconst 1, 1) := by decide +kernel
theorem zd_XPacker_crcWith_21 : decode zb_XPacker_crcWith 21 = .ok (.iushr, 1) := by decide +kernel
theorem zd_XPacker_crcWith_22 : decode zb_XPacker_crcWith 22 = .ok (.ldc 110, 2) := by decide +kernel
theorem zd_XPacker_crcWith_24 : decode zb_XPacker_crcWith 24 = .ok (.ixor, 1) := by decide +kernel
theorem zd_XPacker_crcWith_25 : decode zb_XPacker_crcWith 25 = .ok (.goto 6, 3) := by decide +kernel
theorem zd_XPacker_crcWith_28 : decode zb_XPacker_crcWith 28 = .ok (.iload_n 2, 1) := by decide +kernel
theorem zd_XPacker_crcWith_29 : decode zb_XPacker_crcWith 29 = .ok (.iconst 1, 1) := by decide +kernel
theorem zd_XPacker_crcWith_30 : decode zb_XPacker_crcWith 30 = .ok (.iushr, 1) := by decide +kernel
theorem zd_XPacker_crcWith_31 : decode zb_XPacker_crcWith 31 = .ok (.istore_n 2, 1) := by decide +kernel
theorem zd_XPacker_crcWith_32 : decode zb_XPacker_crcWith 32 = .ok (.iinc 3 1, 3) := by decide +kernel
theorem zd_XPacker_crcWith_35 : decode zb_XPacker_crcWith 35 = .ok (.goto (-29), 3) := by decide +kernel
theorem zd_XPacker_crcWith_38 : decode zb_XPacker_crcWith 38 = .ok (.iload_n 2, 1) := by decide +kernel
theorem zd_XPacker_crcWith_39 : decode zb_XPacker_crcWith 39 = .ok (.ireturn, 1) := by decide +kernel
theorem zw_1006 : (Jvm.Cond.constant "OrreryBox$Packer" (110 : Nat) (-306674912 : Int32)) ∈ gw := gw_t 1006 (by decide +kernel) rfl
def L_XPacker_crcWith_6 (sh : zSh) (fuel : Nat) (v2 : Int32) (v3 : Int32) (mm : zMem) : Option (Int32 × Int32 × zMem) := match fuel with
  | 0 => none
  | fu + 1 => (if 8 ≤ v3 then some (v2, v3, mm) else (if (v2 &&& 1) = 1 then zoL ((((v2 : Int32).toUInt32 >>> ((1 : Int32).toUInt32 &&& Int32.toUInt32 31)).toInt32) ^^^ (-306674912)) (fun x5 => L_XPacker_crcWith_6 sh fu x5 (v3 + 1) mm) else zoL (((v2 : Int32).toUInt32 >>> ((1 : Int32).toUInt32 &&& Int32.toUInt32 31)).toInt32) (fun x4 => L_XPacker_crcWith_6 sh fu x4 (v3 + 1) mm)))
set_option maxHeartbeats 4000000 in
set_option maxRecDepth 100000 in
theorem lp_XPacker_crcWith_6 {p : Program} {l : Launch} {e : Env} {s : State} {m : MethodId} {args : Array Value} {below : List Frame} {meth : Method} {c : Code} {D : va_G} {tA : Nat → ClassId} {b n : Nat} {post : Option Value → zV → Nat → Prop} {sh : zSh} (F : zF p s m args meth c zb_XPacker_crcWith 4 "OrreryBox$Packer" D tA b) : ∀ (fuel : Nat) (v2 : Int32) (v3 : Int32) (mm : zMem) (r : Int32 × Int32 × zMem), L_XPacker_crcWith_6 sh fuel v2 v3 mm = some r → (Z p l e { frames := 0, cells := 0, slots := 0, locals := 0 } s m args below meth c D b 4 (MQ below (zQ D b post) args s 0 0 (fun q => b ≤ q)) (zW tA b sh r.2.2) n 0 0 38 [(2, .int (r.1)), (3, .int (r.2.1))] []) → Z p l e { frames := 0, cells := 0, slots := 0, locals := 0 } s m args below meth c D b 4 (MQ below (zQ D b post) args s 0 0 (fun q => b ≤ q)) (zW tA b sh mm) n 0 0 6 [(2, .int v2), (3, .int v3)] [] := by
  intro fuel
  induction fuel with
  | zero =>
    intro v2 v3 mm r h
    cases h
  | succ fu ih =>
    intro v2 v3 mm r h hx0
    rw [L_XPacker_crcWith_6] at h
    refine zr_iload_n F zd_XPacker_crcWith_6 rfl ?_
    refine zr_pcn 7 rfl ?_
    refine zr_bipushv (v := 8) F zd_XPacker_crcWith_7 (by decide) ?_
    refine zr_icmp_ge F 38 zd_XPacker_crcWith_9 (by decide) (fun hb2 => ?_) (fun hb2 => ?_)
    ·
      rw [if_pos hb2] at h
      obtain rfl := Option.some.inj h
      refine zr_loc (L' := [(2, .int v2), (3, .int v3)]) ⟨rfl, rfl, trivial⟩ ?_
      exact hx0 
    ·
      rw [if_neg hb2] at h
      refine zr_iload_n F zd_XPacker_crcWith_12 rfl ?_
      refine zr_iconstv (v := 1) F zd_XPacker_crcWith_13 (by decide) ?_
      refine zr_iand F zd_XPacker_crcWith_14 ?_
      refine zr_iconstv (v := 1) F zd_XPacker_crcWith_15 (by decide) ?_
      refine zr_icmp_ne F 28 zd_XPacker_crcWith_16 (by decide) (fun hb3 => ?_) (fun hb3 => ?_)
      ·
        rw [if_neg hb3] at h
        refine zr_iload_n F zd_XPacker_crcWith_28 rfl ?_
        refine zr_pcn 29 rfl ?_
        refine zr_iconstv (v := 1) F zd_XPacker_crcWith_29 (by decide) ?_
        refine zr_iushr F zd_XPacker_crcWith_30 ?_
        obtain ⟨x4, ex4, h⟩ := zoL_s h
        rw [← ex4]
        refine zr_istore_n F zd_XPacker_crcWith_31 (by decide) ?_
        refine zr_iinc (v := (v3 + 1)) F zd_XPacker_crcWith_32 rfl rfl (by decide) ?_
        refine zr_goto F 6 zd_XPacker_crcWith_35 (by decide) ?_
        refine zr_loc (L' := [(2, .int x4), (3, .int (v3 + 1))]) ⟨rfl, rfl, trivial⟩ ?_
        exact ih _ _ _ _ h hx0
      ·
        rw [if_pos hb3] at h
        refine zr_iload_n F zd_XPacker_crcWith_19 rfl ?_
        refine zr_iconstv (v := 1) F zd_XPacker_crcWith_20 (by decide) ?_
        refine zr_iushr F zd_XPacker_crcWith_21 ?_
        refine zr_pcn 22 rfl ?_
        refine zr_ldc F zd_XPacker_crcWith_22 zw_1006 ?_
        refine zr_ixor F zd_XPacker_crcWith_24 ?_
        refine zr_goto F 31 zd_XPacker_crcWith_25 (by decide) ?_
        obtain ⟨x5, ex5, h⟩ := zoL_s h
        rw [← ex5]
        refine zr_istore_n F zd_XPacker_crcWith_31 (by decide) ?_
        refine zr_iinc (v := (v3 + 1)) F zd_XPacker_crcWith_32 rfl rfl (by decide) ?_
        refine zr_goto F 6 zd_XPacker_crcWith_35 (by decide) ?_
        refine zr_loc (L' := [(2, .int x5), (3, .int (v3 + 1))]) ⟨rfl, rfl, trivial⟩ ?_
        exact ih _ _ _ _ h hx0
def F_XPacker_crcWith (sh : zSh) (mm : zMem) (x0_ : Int32) (x1_ : Int32) : Option (Int32 × zMem) := zoL (x0_ ^^^ x1_) (fun x1 => Option.bind (L_XPacker_crcWith_6 sh zfuel x1 0 mm) (fun q6 => some (q6.1, q6.2.2)))
set_option maxHeartbeats 4000000 in
set_option maxRecDepth 100000 in
theorem k_XPacker_crcWith (l : Launch) (D : va_G) (tA : Nat → ClassId) (b : Nat) (sh : zSh) (n : Nat) {mm : zMem} {x0_ : Int32} {x1_ : Int32} {r : (Int32 × zMem)} (h : F_XPacker_crcWith sh mm x0_ x1_ = some r) : zM l D tA b zy_XPacker_crcWith zb_XPacker_crcWith 4 (some .int) 0 0 0 0 [.int x0_, .int x1_] (zW tA b sh mm) n (zE (some (.int (r.1))) (zW tA b sh r.2) n) := by
  unfold F_XPacker_crcWith at h
  refine zM_of (own := "OrreryBox$Packer") (plainFor_of_name (by decide)) rfl (Nat.le_of_ble_eq_true rfl) (fun p e s m below meth c F hr hin hH => ?_)
  refine zr_iload_n F zd_XPacker_crcWith_0 rfl ?_
  refine zr_iload_n F zd_XPacker_crcWith_1 rfl ?_
  refine zr_ixor F zd_XPacker_crcWith_2 ?_
  obtain ⟨x1, ex1, h⟩ := zoL_s h
  rw [← ex1]
  refine zr_istore_n F zd_XPacker_crcWith_3 (by decide) ?_
  refine zr_iconstv (v := 0) F zd_XPacker_crcWith_4 (by decide) ?_
  refine zr_istore_n F zd_XPacker_crcWith_5 (by decide) ?_
  obtain ⟨q6, eq6, h⟩ := zoB_s h
  refine zr_loc (L' := [(2, .int x1), (3, .int 0)]) ⟨rfl, rfl, trivial⟩ ?_
  refine lp_XPacker_crcWith_6 F _ _ _ _ _ eq6 ?_
  ·
    refine zr_iload_n F zd_XPacker_crcWith_38 rfl ?_
    obtain rfl := Option.some.inj h
    exact zr_iret F hr zd_XPacker_crcWith_39 (Nat.le_of_ble_eq_true rfl) (Nat.le_of_ble_eq_true rfl) ⟨rfl, rfl, rfl⟩
abbrev zb_XPacker_sumOfRows : ByteArray := prog_5_method_14_code
def zy_XPacker_sumOfRows : MethodName := ⟨"OrreryBox$Packer", "sumOfRows", "()I"⟩
theorem zc_XPacker_sumOfRows : Cond.code zy_XPacker_sumOfRows zb_XPacker_sumOfRows 4 (some .int) ∈ gw := gw_t 1055 (by decide +kernel) rfl
theorem zq_XPacker_sumOfRows : zy_XPacker_sumOfRows.cls ≠ "java/lang/invoke/MethodHandle" ∧ zy_XPacker_sumOfRows.cls ≠ "java/lang/invoke/VarHandle" ∧ (parseMethodDescriptor zy_XPacker_sumOfRows.desc).map (fun d => d.parameters.length) = some 0 := by decide +kernel
theorem zd_XPacker_sumOfRows_0 : decode zb_XPacker_sumOfRows 0 = .ok (.iconst 1, 1) := by decide +kernel
theorem zd_XPacker_sumOfRows_1 : decode zb_XPacker_sumOfRows 1 = .ok (.istore_n 1, 1) := by decide +kernel
theorem zd_XPacker_sumOfRows_2 : decode zb_XPacker_sumOfRows 2 = .ok (.iconst 0, 1) := by decide +kernel
theorem zd_XPacker_sumOfRows_3 : decode zb_XPacker_sumOfRows 3 = .ok (.istore_n 2, 1) := by decide +kernel
theorem zd_XPacker_sumOfRows_4 : decode zb_XPacker_sumOfRows 4 = .ok (.iconst 0, 1) := by decide +kernel
theorem zd_XPacker_sumOfRows_5 : decode zb_XPacker_sumOfRows 5 = .ok (.istore_n 3, 1) := by decide +kernel
theorem zd_XPacker_sumOfRows_6 : decode zb_XPacker_sumOfRows 6 = .ok (.iload_n 3, 1) := by decide +kernel
theorem zd_XPacker_sumOfRows_7 : decode zb_XPacker_sumOfRows 7 = .ok (.aload_n 0, 1) := by decide +kernel
theorem zd_XPacker_sumOfRows_8 : decode zb_XPacker_sumOfRows 8 = .ok (.getfield 70, 3) := by decide +kernel
theorem zd_XPacker_sumOfRows_11 : decode zb_XPacker_sumOfRows 11 = .ok (.if_icmp .ge 28, 3) := by decide +kernel
theorem zd_XPacker_sumOfRows_14 : decode zb_XPacker_sumOfRows 14 = .ok (.iload_n 1, 1) := by decide +kernel
theorem zd_XPacker_sumOfRows_15 : decode zb_XPacker_sumOfRows 15 = .ok (.aload_n 0, 1) := by decide +kernel
theorem zd_XPacker_sumOfRows_16 : decode zb_XPacker_sumOfRows 16 = .ok (.getfield 19, 3) := by decide +kernel
theorem zd_XPacker_sumOfRows_19 : decode zb_XPacker_sumOfRows 19 = .ok (.iload_n 3, 1) := by decide +kernel
theorem zd_XPacker_sumOfRows_20 : decode zb_XPacker_sumOfRows 20 = .ok (.iaload, 1) := by decide +kernel
theorem zd_XPacker_sumOfRows_21 : decode zb_XPacker_sumOfRows 21 = .ok (.iadd, 1) := by decide +kernel
theorem zd_XPacker_sumOfRows_22 : decode zb_XPacker_sumOfRows 22 = .ok (.ldc 111, 2) := by decide +kernel
theorem zd_XPacker_sumOfRows_24 : decode zb_XPacker_sumOfRows 24 = .ok (.irem, 1) := by decide +kernel
theorem zd_XPacker_sumOfRows_25 : decode zb_XPacker_sumOfRows 25 = .ok (.istore_n 1, 1) := by decide +kernel
theorem zd_XPacker_sumOfRows_26 : decode zb_XPacker_sumOfRows 26 = .ok (.iload_n 2, 1) := by decide +kernel
theorem zd_XPacker_sumOfRows_27 : decode zb_XPacker_sumOfRows 27 = .ok (.iload_n 1, 1) := by decide +kernel
theorem zd_XPacker_sumOfRows_28 : decode zb_XPacker_sumOfRows 28 = .ok (.iadd, 1) := by decide +kernel
theorem zd_XPacker_sumOfRows_29 : decode zb_XPacker_sumOfRows 29 = .ok (.ldc 111, 2) := by decide +kernel
theorem zd_XPacker_sumOfRows_31 : decode zb_XPacker_sumOfRows 31 = .ok (.irem, 1) := by decide +kernel
theorem zd_XPacker_sumOfRows_32 : decode zb_XPacker_sumOfRows 32 = .ok (.istore_n 2, 1) := by decide +kernel
theorem zd_XPacker_sumOfRows_33 : decode zb_XPacker_sumOfRows 33 = .ok (.iinc 3 1, 3) := by decide +kernel
theorem zd_XPacker_sumOfRows_36 : decode zb_XPacker_sumOfRows 36 = .ok (.goto (-30), 3) := by decide +kernel
theorem zd_XPacker_sumOfRows_39 : decode zb_XPacker_sumOfRows 39 = .ok (.iload_n 2, 1) := by decide +kernel
theorem zd_XPacker_sumOfRows_40 : decode zb_XPacker_sumOfRows 40 = .ok (.bipush 16, 2) := by decide +kernel
theorem zd_XPacker_sumOfRows_42 : decode zb_XPacker_sumOfRows 42 = .ok (.ishl, 1) := by decide +kernel
theorem zd_XPacker_sumOfRows_43 : decode zb_XPacker_sumOfRows 43 = .ok (.iload_n 1, 1) := by decide +kernel
theorem zd_XPacker_sumOfRows_44 : decode zb_XPacker_sumOfRows 44 = .ok (.ior, 1) := by decide +kernel
theorem zd_XPacker_sumOfRows_45 : decode zb_XPacker_sumOfRows 45 = .ok (.ireturn, 1) := by decide +kernel
theorem zw_87 : (Jvm.Cond.fieldLink "OrreryBox$Packer" (70 : Nat) "OrreryBox$Packer" "rowsSize" "I") ∈ gw := gw_t 87 (by decide +kernel) rfl
theorem zw_1056 : (Jvm.Cond.constant "OrreryBox$Packer" (111 : Nat) (65521 : Int32)) ∈ gw := gw_t 1056 (by decide +kernel) rfl
def L_XPacker_sumOfRows_6 (sh : zSh) (fuel : Nat) (v0 : Nat) (v1 : Int32) (v2 : Int32) (v3 : Int32) (mm : zMem) : Option (Nat × Int32 × Int32 × Int32 × zMem) := match fuel with
  | 0 => none
  | fu + 1 => zoS (sh v0) 4 (fun le2 => (if (mm.1 v0 4) ≤ v3 then some (v0, v1, v2, v3, mm) else zoS (sh v0) 4 (fun le5 => Option.bind (mm.2.2 v0 3) (fun a6 => zoS (sh a6) 100 (fun le8 => if (v3 : Int32) < 0 ∨ le8 ≤ (v3 : Int32).toNatClampNeg then none else zoL ((v1 + (mm.1 a6 (v3 : Int32).toNatClampNeg)) - (v1 + (mm.1 a6 (v3 : Int32).toNatClampNeg)) / 65521 * 65521) (fun x10 => zoL ((v2 + x10) - (v2 + x10) / 65521 * 65521) (fun x11 => L_XPacker_sumOfRows_6 sh fu v0 x10 x11 (v3 + 1) mm)))))))
set_option maxHeartbeats 4000000 in
set_option maxRecDepth 100000 in
theorem lp_XPacker_sumOfRows_6 {p : Program} {l : Launch} {e : Env} {s : State} {m : MethodId} {args : Array Value} {below : List Frame} {meth : Method} {c : Code} {D : va_G} {tA : Nat → ClassId} {b n : Nat} {post : Option Value → zV → Nat → Prop} {sh : zSh} (F : zF p s m args meth c zb_XPacker_sumOfRows 4 "OrreryBox$Packer" D tA b) : ∀ (fuel : Nat) (v0 : Nat) (v1 : Int32) (v2 : Int32) (v3 : Int32) (mm : zMem) (r : Nat × Int32 × Int32 × Int32 × zMem), L_XPacker_sumOfRows_6 sh fuel v0 v1 v2 v3 mm = some r → (Z p l e { frames := 0, cells := 0, slots := 0, locals := 0 } s m args below meth c D b 4 (MQ below (zQ D b post) args s 0 0 (fun q => b ≤ q)) (zW tA b sh r.2.2.2.2) n 0 0 39 [(0, .ref (b + (r.1))), (1, .int (r.2.1)), (2, .int (r.2.2.1)), (3, .int (r.2.2.2.1))] []) → Z p l e { frames := 0, cells := 0, slots := 0, locals := 0 } s m args below meth c D b 4 (MQ below (zQ D b post) args s 0 0 (fun q => b ≤ q)) (zW tA b sh mm) n 0 0 6 [(0, .ref (b + v0)), (1, .int v1), (2, .int v2), (3, .int v3)] [] := by
  intro fuel
  induction fuel with
  | zero =>
    intro v0 v1 v2 v3 mm r h
    cases h
  | succ fu ih =>
    intro v0 v1 v2 v3 mm r h hx0
    rw [L_XPacker_sumOfRows_6] at h
    refine zr_iload_n F zd_XPacker_sumOfRows_6 rfl ?_
    refine zr_pcn 7 rfl ?_
    refine zr_aload_n F zd_XPacker_sumOfRows_7 rfl ?_
    obtain ⟨le2, hs1, h⟩ := zoS_s h
    refine zr_get F 4 4 zd_XPacker_sumOfRows_8 (zW_o hs1 (by decide)) rfl (by decide) zw_87 rfl (by rfl) ?_
    refine zr_icmp_ge F 39 zd_XPacker_sumOfRows_11 (by decide) (fun hb3 => ?_) (fun hb3 => ?_)
    ·
      rw [if_pos hb3] at h
      obtain rfl := Option.some.inj h
      refine zr_loc (L' := [(0, .ref (b + v0)), (1, .int v1), (2, .int v2), (3, .int v3)]) ⟨rfl, rfl, rfl, rfl, trivial⟩ ?_
      exact hx0 
    ·
      rw [if_neg hb3] at h
      refine zr_iload_n F zd_XPacker_sumOfRows_14 rfl ?_
      refine zr_aload_n F zd_XPacker_sumOfRows_15 rfl ?_
      obtain ⟨le5, hs4, h⟩ := zoS_s h
      obtain ⟨a6, ea6, h⟩ := zoB_s h
      refine zr_get F 4 3 zd_XPacker_sumOfRows_16 (zW_o hs4 (by decide)) rfl (by decide) zw_86 rfl (by rfl) ?_
      refine zr_tor ea6 ?_
      refine zr_iload_n F zd_XPacker_sumOfRows_19 rfl ?_
      obtain ⟨le8, hs7, h⟩ := zoS_s h
      obtain ⟨hi9, h⟩ := zoI_s h
      refine zr_iald F zd_XPacker_sumOfRows_20 (zW_a0 hs7) hi9 ?_
      refine zr_pcn 21 rfl ?_
      refine zr_iadd F zd_XPacker_sumOfRows_21 ?_
      refine zr_ldc F zd_XPacker_sumOfRows_22 zw_1056 ?_
      refine zr_irem F zd_XPacker_sumOfRows_24 (by decide) ?_
      obtain ⟨x10, ex10, h⟩ := zoL_s h
      rw [← ex10]
      refine zr_istore_n F zd_XPacker_sumOfRows_25 (by decide) ?_
      refine zr_iload_n F zd_XPacker_sumOfRows_26 rfl ?_
      refine zr_iload_n F zd_XPacker_sumOfRows_27 rfl ?_
      refine zr_iadd F zd_XPacker_sumOfRows_28 ?_
      refine zr_ldc F zd_XPacker_sumOfRows_29 zw_1056 ?_
      refine zr_pcn 31 rfl ?_
      refine zr_irem F zd_XPacker_sumOfRows_31 (by decide) ?_
      obtain ⟨x11, ex11, h⟩ := zoL_s h
      rw [← ex11]
      refine zr_istore_n F zd_XPacker_sumOfRows_32 (by decide) ?_
      refine zr_iinc (v := (v3 + 1)) F zd_XPacker_sumOfRows_33 rfl rfl (by decide) ?_
      refine zr_goto F 6 zd_XPacker_sumOfRows_36 (by decide) ?_
      refine zr_loc (L' := [(0, .ref (b + v0)), (1, .int x10), (2, .int x11), (3, .int (v3 + 1))]) ⟨rfl, rfl, rfl, rfl, trivial⟩ ?_
      exact ih _ _ _ _ _ _ h hx0
def F_XPacker_sumOfRows (sh : zSh) (mm : zMem) (o : Nat) : Option (Int32 × zMem) := Option.bind (L_XPacker_sumOfRows_6 sh zfuel o 1 0 0 mm) (fun q12 => some (((q12.2.2.1 <<< (16 &&& 31)) ||| q12.2.1), q12.2.2.2.2))
set_option maxHeartbeats 4000000 in
set_option maxRecDepth 100000 in
theorem k_XPacker_sumOfRows (l : Launch) (D : va_G) (tA : Nat → ClassId) (b : Nat) (sh : zSh) (n : Nat) {mm : zMem} {o : Nat} {r : (Int32 × zMem)} (h : F_XPacker_sumOfRows sh mm o = some r) : zM l D tA b zy_XPacker_sumOfRows zb_XPacker_sumOfRows 4 (some .int) 0 0 0 0 [.ref (b + o)] (zW tA b sh mm) n (zE (some (.int (r.1))) (zW tA b sh r.2) n) := by
  unfold F_XPacker_sumOfRows at h
  refine zM_of (own := "OrreryBox$Packer") (plainFor_of_name (by decide)) rfl (Nat.le_of_ble_eq_true rfl) (fun p e s m below meth c F hr hin hH => ?_)
  refine zr_iconstv (v := 1) F zd_XPacker_sumOfRows_0 (by decide) ?_
  refine zr_istore_n F zd_XPacker_sumOfRows_1 (by decide) ?_
  refine zr_iconstv (v := 0) F zd_XPacker_sumOfRows_2 (by decide) ?_
  refine zr_istore_n F zd_XPacker_sumOfRows_3 (by decide) ?_
  refine zr_iconstv (v := 0) F zd_XPacker_sumOfRows_4 (by decide) ?_
  refine zr_istore_n F zd_XPacker_sumOfRows_5 (by decide) ?_
  obtain ⟨q12, eq12, h⟩ := zoB_s h
  refine zr_loc (L' := [(0, .ref (b + o)), (1, .int 1), (2, .int 0), (3, .int 0)]) ⟨rfl, rfl, rfl, rfl, trivial⟩ ?_
  refine lp_XPacker_sumOfRows_6 F _ _ _ _ _ _ _ eq12 ?_
  ·
    refine zr_iload_n F zd_XPacker_sumOfRows_39 rfl ?_
    refine zr_bipushv (v := 16) F zd_XPacker_sumOfRows_40 (by decide) ?_
    refine zr_ishl F zd_XPacker_sumOfRows_42 ?_
    refine zr_iload_n F zd_XPacker_sumOfRows_43 rfl ?_
    refine zr_pcn 44 rfl ?_
    refine zr_ior F zd_XPacker_sumOfRows_44 ?_
    obtain rfl := Option.some.inj h
    exact zr_iret F hr zd_XPacker_sumOfRows_45 (Nat.le_of_ble_eq_true rfl) (Nat.le_of_ble_eq_true rfl) ⟨rfl, rfl, rfl⟩
abbrev zb_XPacker_sameFrom : ByteArray := prog_5_method_17_code
def zy_XPacker_sameFrom : MethodName := ⟨"OrreryBox$Packer", "sameFrom", "(III)I"⟩
theorem zc_XPacker_sameFrom : Cond.code zy_XPacker_sameFrom zb_XPacker_sameFrom 5 (some .int) ∈ gw := gw_t 1031 (by decide +kernel) rfl
theorem zq_XPacker_sameFrom : zy_XPacker_sameFrom.cls ≠ "java/lang/invoke/MethodHandle" ∧ zy_XPacker_sameFrom.cls ≠ "java/lang/invoke/VarHandle" ∧ (parseMethodDescriptor zy_XPacker_sameFrom.desc).map (fun d => d.parameters.length) = some 3 := by decide +kernel
theorem zd_XPacker_sameFrom_0 : decode zb_XPacker_sameFrom 0 = .ok (.iconst 0, 1) := by decide +kernel
theorem zd_XPacker_sameFrom_1 : decode zb_XPacker_sameFrom 1 = .ok (.istore 4, 2) := by decide +kernel
theorem zd_XPacker_sameFrom_3 : decode zb_XPacker_sameFrom 3 = .ok (.iload 4, 2) := by decide +kernel
theorem zd_XPacker_sameFrom_5 : decode zb_XPacker_sameFrom 5 = .ok (.iload_n 3, 1) := by decide +kernel
theorem zd_XPacker_sameFrom_6 : decode zb_XPacker_sameFrom 6 = .ok (.if_icmp .ge 30, 3) := by decide +kernel
theorem zd_XPacker_sameFrom_9 : decode zb_XPacker_sameFrom 9 = .ok (.aload_n 0, 1) := by decide +kernel
theorem zd_XPacker_sameFrom_10 : decode zb_XPacker_sameFrom 10 = .ok (.getfield 19, 3) := by decide +kernel
theorem zd_XPacker_sameFrom_13 : decode zb_XPacker_sameFrom 13 = .ok (.iload_n 1, 1) := by decide +kernel
theorem zd_XPacker_sameFrom_14 : decode zb_XPacker_sameFrom 14 = .ok (.iload 4, 2) := by decide +kernel
theorem zd_XPacker_sameFrom_16 : decode zb_XPacker_sameFrom 16 = .ok (.iadd, 1) := by decide +kernel
theorem zd_XPacker_sameFrom_17 : decode zb_XPacker_sameFrom 17 = .ok (.iaload, 1) := by decide +kernel
theorem zd_XPacker_sameFrom_18 : decode zb_XPacker_sameFrom 18 = .ok (.aload_n 0, 1) := by decide +kernel
theorem zd_XPacker_sameFrom_19 : decode zb_XPacker_sameFrom 19 = .ok (.getfield 19, 3) := by decide +kernel
theorem zd_XPacker_sameFrom_22 : decode zb_XPacker_sameFrom 22 = .ok (.iload_n 2, 1) := by decide +kernel
theorem zd_XPacker_sameFrom_23 : decode zb_XPacker_sameFrom 23 = .ok (.iload 4, 2) := by decide +kernel
theorem zd_XPacker_sameFrom_25 : decode zb_XPacker_sameFrom 25 = .ok (.iadd, 1) := by decide +kernel
theorem zd_XPacker_sameFrom_26 : decode zb_XPacker_sameFrom 26 = .ok (.iaload, 1) := by decide +kernel
theorem zd_XPacker_sameFrom_27 : decode zb_XPacker_sameFrom 27 = .ok (.if_icmp .ne 9, 3) := by decide +kernel
theorem zd_XPacker_sameFrom_30 : decode zb_XPacker_sameFrom 30 = .ok (.iinc 4 1, 3) := by decide +kernel
theorem zd_XPacker_sameFrom_33 : decode zb_XPacker_sameFrom 33 = .ok (.goto (-30), 3) := by decide +kernel
theorem zd_XPacker_sameFrom_36 : decode zb_XPacker_sameFrom 36 = .ok (.iload 4, 2) := by decide +kernel
theorem zd_XPacker_sameFrom_38 : decode zb_XPacker_sameFrom 38 = .ok (.ireturn, 1) := by decide +kernel
def L_XPacker_sameFrom_3 (sh : zSh) (fuel : Nat) (v0 : Nat) (v1 : Int32) (v2 : Int32) (v3 : Int32) (v4 : Int32) (mm : zMem) : Option (Nat × Int32 × Int32 × Int32 × Int32 × zMem) := match fuel with
  | 0 => none
  | fu + 1 => (if v3 ≤ v4 then some (v0, v1, v2, v3, v4, mm) else zoS (sh v0) 4 (fun le3 => Option.bind (mm.2.2 v0 3) (fun a4 => zoL (v1 + v4) (fun i5 => zoS (sh a4) 100 (fun le7 => if (i5 : Int32) < 0 ∨ le7 ≤ (i5 : Int32).toNatClampNeg then none else zoS (sh v0) 4 (fun le10 => Option.bind (mm.2.2 v0 3) (fun a11 => zoL (v2 + v4) (fun i12 => zoS (sh a11) 100 (fun le14 => if (i12 : Int32) < 0 ∨ le14 ≤ (i12 : Int32).toNatClampNeg then none else (if (mm.1 a4 (i5 : Int32).toNatClampNeg) = (mm.1 a11 (i12 : Int32).toNatClampNeg) then L_XPacker_sameFrom_3 sh fu v0 v1 v2 v3 (v4 + 1) mm else some (v0, v1, v2, v3, v4, mm)))))))))))
set_option maxHeartbeats 4000000 in
set_option maxRecDepth 100000 in
theorem lp_XPacker_sameFrom_3 {p : Program} {l : Launch} {e : Env} {s : State} {m : MethodId} {args : Array Value} {below : List Frame} {meth : Method} {c : Code} {D : va_G} {tA : Nat → ClassId} {b n : Nat} {post : Option Value → zV → Nat → Prop} {sh : zSh} (F : zF p s m args meth c zb_XPacker_sameFrom 5 "OrreryBox$Packer" D tA b) : ∀ (fuel : Nat) (v0 : Nat) (v1 : Int32) (v2 : Int32) (v3 : Int32) (v4 : Int32) (mm : zMem) (r : Nat × Int32 × Int32 × Int32 × Int32 × zMem), L_XPacker_sameFrom_3 sh fuel v0 v1 v2 v3 v4 mm = some r → (Z p l e { frames := 0, cells := 0, slots := 0, locals := 0 } s m args below meth c D b 5 (MQ below (zQ D b post) args s 0 0 (fun q => b ≤ q)) (zW tA b sh r.2.2.2.2.2) n 0 0 36 [(0, .ref (b + (r.1))), (1, .int (r.2.1)), (2, .int (r.2.2.1)), (3, .int (r.2.2.2.1)), (4, .int (r.2.2.2.2.1))] []) → Z p l e { frames := 0, cells := 0, slots := 0, locals := 0 } s m args below meth c D b 5 (MQ below (zQ D b post) args s 0 0 (fun q => b ≤ q)) (zW tA b sh mm) n 0 0 3 [(0, .ref (b + v0)), (1, .int v1), (2, .int v2), (3, .int v3), (4, .int v4)] [] := by
  intro fuel
  induction fuel with
  | zero =>
    intro v0 v1 v2 v3 v4 mm r h
    cases h
  | succ fu ih =>
    intro v0 v1 v2 v3 v4 mm r h hx0
    rw [L_XPacker_sameFrom_3] at h
    refine zr_iload F zd_XPacker_sameFrom_3 rfl ?_
    refine zr_iload_n F zd_XPacker_sameFrom_5 rfl ?_
    refine zr_icmp_ge F 36 zd_XPacker_sameFrom_6 (by decide) (fun hb1 => ?_) (fun hb1 => ?_)
    ·
      rw [if_pos hb1] at h
      obtain rfl := Option.some.inj h
      refine zr_loc (L' := [(0, .ref (b + v0)), (1, .int v1), (2, .int v2), (3, .int v3), (4, .int v4)]) ⟨rfl, rfl, rfl, rfl, rfl, trivial⟩ ?_
      exact hx0 
    ·
      rw [if_neg hb1] at h
      refine zr_aload_n F zd_XPacker_sameFrom_9 rfl ?_
      obtain ⟨le3, hs2, h⟩ := zoS_s h
      obtain ⟨a4, ea4, h⟩ := zoB_s h
      refine zr_get F 4 3 zd_XPacker_sameFrom_10 (zW_o hs2 (by decide)) rfl (by decide) zw_86 rfl (by rfl) ?_
      refine zr_tor ea4 ?_
      refine zr_pcn 13 rfl ?_
      refine zr_iload_n F zd_XPacker_sameFrom_13 rfl ?_
      refine zr_iload F zd_XPacker_sameFrom_14 rfl ?_
      refine zr_iadd F zd_XPacker_sameFrom_16 ?_
      obtain ⟨i5, ei5, h⟩ := zoL_s h
      rw [← ei5]
      obtain ⟨le7, hs6, h⟩ := zoS_s h
      obtain ⟨hi8, h⟩ := zoI_s h
      refine zr_iald F zd_XPacker_sameFrom_17 (zW_a0 hs6) hi8 ?_
      refine zr_aload_n F zd_XPacker_sameFrom_18 rfl ?_
      obtain ⟨le10, hs9, h⟩ := zoS_s h
      obtain ⟨a11, ea11, h⟩ := zoB_s h
      refine zr_get F 4 3 zd_XPacker_sameFrom_19 (zW_o hs9 (by decide)) rfl (by decide) zw_86 rfl (by rfl) ?_
      refine zr_tor ea11 ?_
      refine zr_iload_n F zd_XPacker_sameFrom_22 rfl ?_
      refine zr_iload F zd_XPacker_sameFrom_23 rfl ?_
      refine zr_pcn 25 rfl ?_
      refine zr_iadd F zd_XPacker_sameFrom_25 ?_
      obtain ⟨i12, ei12, h⟩ := zoL_s h
      rw [← ei12]
      obtain ⟨le14, hs13, h⟩ := zoS_s h
      obtain ⟨hi15, h⟩ := zoI_s h
      refine zr_iald F zd_XPacker_sameFrom_26 (zW_a0 hs13) hi15 ?_
      refine zr_icmp_ne F 36 zd_XPacker_sameFrom_27 (by decide) (fun hb16 => ?_) (fun hb16 => ?_)
      ·
        rw [if_neg hb16] at h
        obtain rfl := Option.some.inj h
        refine zr_loc (L' := [(0, .ref (b + v0)), (1, .int v1), (2, .int v2), (3, .int v3), (4, .int v4)]) ⟨rfl, rfl, rfl, rfl, rfl, trivial⟩ ?_
        exact hx0 
      ·
        rw [if_pos hb16] at h
        refine zr_iinc (v := (v4 + 1)) F zd_XPacker_sameFrom_30 rfl rfl (by decide) ?_
        refine zr_goto F 3 zd_XPacker_sameFrom_33 (by decide) ?_
        refine zr_loc (L' := [(0, .ref (b + v0)), (1, .int v1), (2, .int v2), (3, .int v3), (4, .int (v4 + 1))]) ⟨rfl, rfl, rfl, rfl, rfl, trivial⟩ ?_
        exact ih _ _ _ _ _ _ _ h hx0
def F_XPacker_sameFrom (sh : zSh) (mm : zMem) (o : Nat) (x0_ : Int32) (x1_ : Int32) (x2_ : Int32) : Option (Int32 × zMem) := Option.bind (L_XPacker_sameFrom_3 sh zfuel o x0_ x1_ x2_ 0 mm) (fun q17 => some (q17.2.2.2.2.1, q17.2.2.2.2.2))
set_option maxHeartbeats 4000000 in
set_option maxRecDepth 100000 in
theorem k_XPacker_sameFrom (l : Launch) (D : va_G) (tA : Nat → ClassId) (b : Nat) (sh : zSh) (n : Nat) {mm : zMem} {o : Nat} {x0_ : Int32} {x1_ : Int32} {x2_ : Int32} {r : (Int32 × zMem)} (h : F_XPacker_sameFrom sh mm o x0_ x1_ x2_ = some r) : zM l D tA b zy_XPacker_sameFrom zb_XPacker_sameFrom 5 (some .int) 0 0 0 0 [.ref (b + o), .int x0_, .int x1_, .int x2_] (zW tA b sh mm) n (zE (some (.int (r.1))) (zW tA b sh r.2) n) := by
  unfold F_XPacker_sameFrom at h
  refine zM_of (own := "OrreryBox$Packer") (plainFor_of_name (by decide)) rfl (Nat.le_of_ble_eq_true rfl) (fun p e s m below meth c F hr hin hH => ?_)
  refine zr_iconstv (v := 0) F zd_XPacker_sameFrom_0 (by decide) ?_
  refine zr_istore F zd_XPacker_sameFrom_1 (by decide) ?_
  obtain ⟨q17, eq17, h⟩ := zoB_s h
  refine zr_loc (L' := [(0, .ref (b + o)), (1, .int x0_), (2, .int x1_), (3, .int x2_), (4, .int 0)]) ⟨rfl, rfl, rfl, rfl, rfl, trivial⟩ ?_
  refine lp_XPacker_sameFrom_3 F _ _ _ _ _ _ _ _ eq17 ?_
  ·
    refine zr_iload F zd_XPacker_sameFrom_36 rfl ?_
    obtain rfl := Option.some.inj h
    exact zr_iret F hr zd_XPacker_sameFrom_38 (Nat.le_of_ble_eq_true rfl) (Nat.le_of_ble_eq_true rfl) ⟨rfl, rfl, rfl⟩
abbrev zb_XPacker_keyOf : ByteArray := prog_5_method_19_code
def zy_XPacker_keyOf : MethodName := ⟨"OrreryBox$Packer", "keyOf", "(I)I"⟩
theorem zc_XPacker_keyOf : Cond.code zy_XPacker_keyOf zb_XPacker_keyOf 2 (some .int) ∈ gw := gw_t 1027 (by decide +kernel) rfl
theorem zq_XPacker_keyOf : zy_XPacker_keyOf.cls ≠ "java/lang/invoke/MethodHandle" ∧ zy_XPacker_keyOf.cls ≠ "java/lang/invoke/VarHandle" ∧ (parseMethodDescriptor zy_XPacker_keyOf.desc).map (fun d => d.parameters.length) = some 1 := by decide +kernel
theorem zd_XPacker_keyOf_0 : decode zb_XPacker_keyOf 0 = .ok (.aload_n 0, 1) := by decide +kernel
theorem zd_XPacker_keyOf_1 : decode zb_XPacker_keyOf 1 = .ok (.getfield 19, 3) := by decide +kernel
theorem zd_XPacker_keyOf_4 : decode zb_XPacker_keyOf 4 = .ok (.iload_n 1, 1) := by decide +kernel
theorem zd_XPacker_keyOf_5 : decode zb_XPacker_keyOf 5 = .ok (.iaload, 1) := by decide +kernel
theorem zd_XPacker_keyOf_6 : decode zb_XPacker_keyOf 6 = .ok (.bipush 8, 2) := by decide +kernel
theorem zd_XPacker_keyOf_8 : decode zb_XPacker_keyOf 8 = .ok (.ishl, 1) := by decide +kernel
theorem zd_XPacker_keyOf_9 : decode zb_XPacker_keyOf 9 = .ok (.aload_n 0, 1) := by decide +kernel
theorem zd_XPacker_keyOf_10 : decode zb_XPacker_keyOf 10 = .ok (.getfield 19, 3) := by decide +kernel
theorem zd_XPacker_keyOf_13 : decode zb_XPacker_keyOf 13 = .ok (.iload_n 1, 1) := by decide +kernel
theorem zd_XPacker_keyOf_14 : decode zb_XPacker_keyOf 14 = .ok (.iconst 1, 1) := by decide +kernel
theorem zd_XPacker_keyOf_15 : decode zb_XPacker_keyOf 15 = .ok (.iadd, 1) := by decide +kernel
theorem zd_XPacker_keyOf_16 : decode zb_XPacker_keyOf 16 = .ok (.iaload, 1) := by decide +kernel
theorem zd_XPacker_keyOf_17 : decode zb_XPacker_keyOf 17 = .ok (.iconst 4, 1) := by decide +kernel
theorem zd_XPacker_keyOf_18 : decode zb_XPacker_keyOf 18 = .ok (.ishl, 1) := by decide +kernel
theorem zd_XPacker_keyOf_19 : decode zb_XPacker_keyOf 19 = .ok (.ixor, 1) := by decide +kernel
theorem zd_XPacker_keyOf_20 : decode zb_XPacker_keyOf 20 = .ok (.aload_n 0, 1) := by decide +kernel
theorem zd_XPacker_keyOf_21 : decode zb_XPacker_keyOf 21 = .ok (.getfield 19, 3) := by decide +kernel
theorem zd_XPacker_keyOf_24 : decode zb_XPacker_keyOf 24 = .ok (.iload_n 1, 1) := by decide +kernel
theorem zd_XPacker_keyOf_25 : decode zb_XPacker_keyOf 25 = .ok (.iconst 2, 1) := by decide +kernel
theorem zd_XPacker_keyOf_26 : decode zb_XPacker_keyOf 26 = .ok (.iadd, 1) := by decide +kernel
theorem zd_XPacker_keyOf_27 : decode zb_XPacker_keyOf 27 = .ok (.iaload, 1) := by decide +kernel
theorem zd_XPacker_keyOf_28 : decode zb_XPacker_keyOf 28 = .ok (.ixor, 1) := by decide +kernel
theorem zd_XPacker_keyOf_29 : decode zb_XPacker_keyOf 29 = .ok (.sipush 4095, 3) := by decide +kernel
theorem zd_XPacker_keyOf_32 : decode zb_XPacker_keyOf 32 = .ok (.iand, 1) := by decide +kernel
theorem zd_XPacker_keyOf_33 : decode zb_XPacker_keyOf 33 = .ok (.ireturn, 1) := by decide +kernel
def F_XPacker_keyOf (sh : zSh) (mm : zMem) (o : Nat) (x0_ : Int32) : Option (Int32 × zMem) := zoS (sh o) 4 (fun le2 => Option.bind (mm.2.2 o 3) (fun a3 => zoS (sh a3) 100 (fun le5 => if (x0_ : Int32) < 0 ∨ le5 ≤ (x0_ : Int32).toNatClampNeg then none else zoS (sh o) 4 (fun le8 => Option.bind (mm.2.2 o 3) (fun a9 => zoL (x0_ + 1) (fun i10 => zoS (sh a9) 100 (fun le12 => if (i10 : Int32) < 0 ∨ le12 ≤ (i10 : Int32).toNatClampNeg then none else zoS (sh o) 4 (fun le15 => Option.bind (mm.2.2 o 3) (fun a16 => zoL (x0_ + 2) (fun i17 => zoS (sh a16) 100 (fun le19 => if (i17 : Int32) < 0 ∨ le19 ≤ (i17 : Int32).toNatClampNeg then none else some ((((((mm.1 a3 (x0_ : Int32).toNatClampNeg) <<< (8 &&& 31)) ^^^ ((mm.1 a9 (i10 : Int32).toNatClampNeg) <<< (4 &&& 31))) ^^^ (mm.1 a16 (i17 : Int32).toNatClampNeg)) &&& 4095), mm))))))))))))
set_option maxHeartbeats 4000000 in
set_option maxRecDepth 100000 in
theorem k_XPacker_keyOf (l : Launch) (D : va_G) (tA : Nat → ClassId) (b : Nat) (sh : zSh) (n : Nat) {mm : zMem} {o : Nat} {x0_ : Int32} {r : (Int32 × zMem)} (h : F_XPacker_keyOf sh mm o x0_ = some r) : zM l D tA b zy_XPacker_keyOf zb_XPacker_keyOf 2 (some .int) 0 0 0 0 [.ref (b + o), .int x0_] (zW tA b sh mm) n (zE (some (.int (r.1))) (zW tA b sh r.2) n) := by
  unfold F_XPacker_keyOf at h
  refine zM_of (own := "OrreryBox$Packer") (plainFor_of_name (by decide)) rfl (Nat.le_of_ble_eq_true rfl) (fun p e s m below meth c F hr hin hH => ?_)
  refine zr_aload_n F zd_XPacker_keyOf_0 rfl ?_
  obtain ⟨le2, hs1, h⟩ := zoS_s h
  obtain ⟨a3, ea3, h⟩ := zoB_s h
  refine zr_get F 4 3 zd_XPacker_keyOf_1 (zW_o hs1 (by decide)) rfl (by decide) zw_86 rfl (by rfl) ?_
  refine zr_tor ea3 ?_
  refine zr_iload_n F zd_XPacker_keyOf_4 rfl ?_
  obtain ⟨le5, hs4, h⟩ := zoS_s h
  obtain ⟨hi6, h⟩ := zoI_s h
  refine zr_iald F zd_XPacker_keyOf_5 (zW_a0 hs4) hi6 ?_
  refine zr_bipushv (v := 8) F zd_XPacker_keyOf_6 (by decide) ?_
  refine zr_ishl F zd_XPacker_keyOf_8 ?_
  refine zr_aload_n F zd_XPacker_keyOf_9 rfl ?_
  refine zr_pcn 10 rfl ?_
  obtain ⟨le8, hs7, h⟩ := zoS_s h
  obtain ⟨a9, ea9, h⟩ := zoB_s h
  refine zr_get F 4 3 zd_XPacker_keyOf_10 (zW_o hs7 (by decide)) rfl (by decide) zw_86 rfl (by rfl) ?_
  refine zr_tor ea9 ?_
  refine zr_iload_n F zd_XPacker_keyOf_13 rfl ?_
  refine zr_iconstv (v := 1) F zd_XPacker_keyOf_14 (by decide) ?_
  refine zr_iadd F zd_XPacker_keyOf_15 ?_
  obtain ⟨i10, ei10, h⟩ := zoL_s h
  rw [← ei10]
  obtain ⟨le12, hs11, h⟩ := zoS_s h
  obtain ⟨hi13, h⟩ := zoI_s h
  refine zr_iald F zd_XPacker_keyOf_16 (zW_a0 hs11) hi13 ?_
  refine zr_iconstv (v := 4) F zd_XPacker_keyOf_17 (by decide) ?_
  refine zr_ishl F zd_XPacker_keyOf_18 ?_
  refine zr_ixor F zd_XPacker_keyOf_19 ?_
  refine zr_pcn 20 rfl ?_
  refine zr_aload_n F zd_XPacker_keyOf_20 rfl ?_
  obtain ⟨le15, hs14, h⟩ := zoS_s h
  obtain ⟨a16, ea16, h⟩ := zoB_s h
  refine zr_get F 4 3 zd_XPacker_keyOf_21 (zW_o hs14 (by decide)) rfl (by decide) zw_86 rfl (by rfl) ?_
  refine zr_tor ea16 ?_
  refine zr_iload_n F zd_XPacker_keyOf_24 rfl ?_
  refine zr_iconstv (v := 2) F zd_XPacker_keyOf_25 (by decide) ?_
  refine zr_iadd F zd_XPacker_keyOf_26 ?_
  obtain ⟨i17, ei17, h⟩ := zoL_s h
  rw [← ei17]
  obtain ⟨le19, hs18, h⟩ := zoS_s h
  obtain ⟨hi20, h⟩ := zoI_s h
  refine zr_iald F zd_XPacker_keyOf_27 (zW_a0 hs18) hi20 ?_
  refine zr_ixor F zd_XPacker_keyOf_28 ?_
  refine zr_sipushv (v := 4095) F zd_XPacker_keyOf_29 (by decide) ?_
  refine zr_pcn 32 rfl ?_
  refine zr_iand F zd_XPacker_keyOf_32 ?_
  obtain rfl := Option.some.inj h
  exact zr_iret F hr zd_XPacker_keyOf_33 (Nat.le_of_ble_eq_true rfl) (Nat.le_of_ble_eq_true rfl) ⟨rfl, rfl, rfl⟩
abbrev zb_XPacker_putBit : ByteArray := prog_5_method_25_code
def zy_XPacker_putBit : MethodName := ⟨"OrreryBox$Packer", "putBit", "(I)V"⟩
theorem zc_XPacker_putBit : Cond.code zy_XPacker_putBit zb_XPacker_putBit 2 none ∈ gw := gw_t 1019 (by decide +kernel) rfl
theorem zq_XPacker_putBit : zy_XPacker_putBit.cls ≠ "java/lang/invoke/MethodHandle" ∧ zy_XPacker_putBit.cls ≠ "java/lang/invoke/VarHandle" ∧ (parseMethodDescriptor zy_XPacker_putBit.desc).map (fun d => d.parameters.length) = some 1 := by decide +kernel
theorem zd_XPacker_putBit_0 : decode zb_XPacker_putBit 0 = .ok (.aload_n 0, 1) := by decide +kernel
theorem zd_XPacker_putBit_1 : decode zb_XPacker_putBit 1 = .ok (.dup, 1) := by decide +kernel
theorem zd_XPacker_putBit_2 : decode zb_XPacker_putBit 2 = .ok (.getfield 112, 3) := by decide +kernel
theorem zd_XPacker_putBit_5 : decode zb_XPacker_putBit 5 = .ok (.iload_n 1, 1) := by decide +kernel
theorem zd_XPacker_putBit_6 : decode zb_XPacker_putBit 6 = .ok (.aload_n 0, 1) := by decide +kernel
theorem zd_XPacker_putBit_7 : decode zb_XPacker_putBit 7 = .ok (.getfield 115, 3) := by decide +kernel
theorem zd_XPacker_putBit_10 : decode zb_XPacker_putBit 10 = .ok (.ishl, 1) := by decide +kernel
theorem zd_XPacker_putBit_11 : decode zb_XPacker_putBit 11 = .ok (.ior, 1) := by decide +kernel
theorem zd_XPacker_putBit_12 : decode zb_XPacker_putBit 12 = .ok (.putfield 112, 3) := by decide +kernel
theorem zd_XPacker_putBit_15 : decode zb_XPacker_putBit 15 = .ok (.aload_n 0, 1) := by decide +kernel
theorem zd_XPacker_putBit_16 : decode zb_XPacker_putBit 16 = .ok (.dup, 1) := by decide +kernel
theorem zd_XPacker_putBit_17 : decode zb_XPacker_putBit 17 = .ok (.getfield 115, 3) := by decide +kernel
theorem zd_XPacker_putBit_20 : decode zb_XPacker_putBit 20 = .ok (.iconst 1, 1) := by decide +kernel
theorem zd_XPacker_putBit_21 : decode zb_XPacker_putBit 21 = .ok (.iadd, 1) := by decide +kernel
theorem zd_XPacker_putBit_22 : decode zb_XPacker_putBit 22 = .ok (.putfield 115, 3) := by decide +kernel
theorem zd_XPacker_putBit_25 : decode zb_XPacker_putBit 25 = .ok (.aload_n 0, 1) := by decide +kernel
theorem zd_XPacker_putBit_26 : decode zb_XPacker_putBit 26 = .ok (.getfield 115, 3) := by decide +kernel
theorem zd_XPacker_putBit_29 : decode zb_XPacker_putBit 29 = .ok (.bipush 8, 2) := by decide +kernel
theorem zd_XPacker_putBit_31 : decode zb_XPacker_putBit 31 = .ok (.if_icmp .ne 49, 3) := by decide +kernel
theorem zd_XPacker_putBit_34 : decode zb_XPacker_putBit 34 = .ok (.aload_n 0, 1) := by decide +kernel
theorem zd_XPacker_putBit_35 : decode zb_XPacker_putBit 35 = .ok (.getfield 36, 3) := by decide +kernel
theorem zd_XPacker_putBit_38 : decode zb_XPacker_putBit 38 = .ok (.aload_n 0, 1) := by decide +kernel
theorem zd_XPacker_putBit_39 : decode zb_XPacker_putBit 39 = .ok (.getfield 11, 3) := by decide +kernel
theorem zd_XPacker_putBit_42 : decode zb_XPacker_putBit 42 = .ok (.arraylength, 1) := by decide +kernel
theorem zd_XPacker_putBit_43 : decode zb_XPacker_putBit 43 = .ok (.if_icmp .ge 37, 3) := by decide +kernel
theorem zd_XPacker_putBit_46 : decode zb_XPacker_putBit 46 = .ok (.aload_n 0, 1) := by decide +kernel
theorem zd_XPacker_putBit_47 : decode zb_XPacker_putBit 47 = .ok (.getfield 11, 3) := by decide +kernel
theorem zd_XPacker_putBit_50 : decode zb_XPacker_putBit 50 = .ok (.aload_n 0, 1) := by decide +kernel
theorem zd_XPacker_putBit_51 : decode zb_XPacker_putBit 51 = .ok (.getfield 36, 3) := by decide +kernel
theorem zd_XPacker_putBit_54 : decode zb_XPacker_putBit 54 = .ok (.aload_n 0, 1) := by decide +kernel
theorem zd_XPacker_putBit_55 : decode zb_XPacker_putBit 55 = .ok (.getfield 112, 3) := by decide +kernel
theorem zd_XPacker_putBit_58 : decode zb_XPacker_putBit 58 = .ok (.i2b, 1) := by decide +kernel
theorem zd_XPacker_putBit_59 : decode zb_XPacker_putBit 59 = .ok (.bastore, 1) := by decide +kernel
theorem zd_XPacker_putBit_60 : decode zb_XPacker_putBit 60 = .ok (.aload_n 0, 1) := by decide +kernel
theorem zd_XPacker_putBit_61 : decode zb_XPacker_putBit 61 = .ok (.dup, 1) := by decide +kernel
theorem zd_XPacker_putBit_62 : decode zb_XPacker_putBit 62 = .ok (.getfield 36, 3) := by decide +kernel
theorem zd_XPacker_putBit_65 : decode zb_XPacker_putBit 65 = .ok (.iconst 1, 1) := by decide +kernel
theorem zd_XPacker_putBit_66 : decode zb_XPacker_putBit 66 = .ok (.iadd, 1) := by decide +kernel
theorem zd_XPacker_putBit_67 : decode zb_XPacker_putBit 67 = .ok (.putfield 36, 3) := by decide +kernel
theorem zd_XPacker_putBit_70 : decode zb_XPacker_putBit 70 = .ok (.aload_n 0, 1) := by decide +kernel
theorem zd_XPacker_putBit_71 : decode zb_XPacker_putBit 71 = .ok (.iconst 0, 1) := by decide +kernel
theorem zd_XPacker_putBit_72 : decode zb_XPacker_putBit 72 = .ok (.putfield 112, 3) := by decide +kernel
theorem zd_XPacker_putBit_75 : decode zb_XPacker_putBit 75 = .ok (.aload_n 0, 1) := by decide +kernel
theorem zd_XPacker_putBit_76 : decode zb_XPacker_putBit 76 = .ok (.iconst 0, 1) := by decide +kernel
theorem zd_XPacker_putBit_77 : decode zb_XPacker_putBit 77 = .ok (.putfield 115, 3) := by decide +kernel
theorem zd_XPacker_putBit_80 : decode zb_XPacker_putBit 80 = .ok (.return_, 1) := by decide +kernel
theorem zw_92 : (Jvm.Cond.fieldLink "OrreryBox$Packer" (112 : Nat) "OrreryBox$Packer" "held" "I") ∈ gw := gw_t 92 (by decide +kernel) rfl
theorem zw_93 : (Jvm.Cond.fieldLink "OrreryBox$Packer" (115 : Nat) "OrreryBox$Packer" "heldBits" "I") ∈ gw := gw_t 93 (by decide +kernel) rfl
theorem zf_I_4_9 (b : Nat) (m : zMem) (k : Nat) (v : Int32) : (zfl b 4 m k).set 9 (.int v) = zfl b 4 (mI m k 9 v) k := by simp [zfl, mI, upd, vp_updL]
theorem zf_I_4_10 (b : Nat) (m : zMem) (k : Nat) (v : Int32) : (zfl b 4 m k).set 10 (.int v) = zfl b 4 (mI m k 10 v) k := by simp [zfl, mI, upd, vp_updL]
def F_XPacker_putBit (sh : zSh) (mm : zMem) (o : Nat) (x0_ : Int32) : Option zMem := zoS (sh o) 4 (fun le2 => zoS (sh o) 4 (fun le4 => zoL ((mm.1 o 9) ||| (x0_ <<< ((mm.1 o 10) &&& 31))) (fun x5 => zoS (sh o) 4 (fun le7 => zoL (mI mm o 9 x5) (fun mm8 => zoS (sh o) 4 (fun le10 => zoL ((mm8.1 o 10) + 1) (fun x11 => zoS (sh o) 4 (fun le13 => zoL (mI mm8 o 10 x11) (fun mm14 => zoS (sh o) 4 (fun le16 => (if (mm14.1 o 10) = 8 then zoS (sh o) 4 (fun le19 => zoS (sh o) 4 (fun le21 => Option.bind (mm14.2.2 o 0) (fun a22 => zoA (sh a22) (fun t25 le24 => (if (Int32.ofNat le24) ≤ (mm14.1 o 1) then some mm14 else zoS (sh o) 4 (fun le28 => Option.bind (mm14.2.2 o 0) (fun a29 => zoS (sh o) 4 (fun le31 => zoS (sh o) 4 (fun le33 => zoL (((mm14.1 o 9) : Int32).toInt8.toInt32) (fun x34 => zoL (mm14.1 o 1) (fun i35 => zoS (sh a29) 101 (fun le37 => if (i35 : Int32) < 0 ∨ le37 ≤ (i35 : Int32).toNatClampNeg then none else zoL (mI mm14 a29 (i35 : Int32).toNatClampNeg (vp_nar .byte x34)) (fun mm39 => zoS (sh o) 4 (fun le41 => zoL ((mm39.1 o 1) + 1) (fun x42 => zoS (sh o) 4 (fun le44 => zoL (mI mm39 o 1 x42) (fun mm45 => zoS (sh o) 4 (fun le47 => zoL (mI mm45 o 9 0) (fun mm48 => zoS (sh o) 4 (fun le50 => zoL (mI mm48 o 10 0) (fun mm51 => some mm51))))))))))))))))))))) else some mm14)))))))))))
set_option maxHeartbeats 4000000 in
set_option maxRecDepth 100000 in
theorem k_XPacker_putBit (l : Launch) (D : va_G) (tA : Nat → ClassId) (b : Nat) (sh : zSh) (n : Nat) {mm : zMem} {o : Nat} {x0_ : Int32} {r : zMem} (h : F_XPacker_putBit sh mm o x0_ = some r) : zM l D tA b zy_XPacker_putBit zb_XPacker_putBit 2 none 0 0 0 0 [.ref (b + o), .int x0_] (zW tA b sh mm) n (zE none (zW tA b sh r) n) := by
  unfold F_XPacker_putBit at h
  refine zM_of (own := "OrreryBox$Packer") (plainFor_of_name (by decide)) rfl (Nat.le_of_ble_eq_true rfl) (fun p e s m below meth c F hr hin hH => ?_)
  refine zr_aload_n F zd_XPacker_putBit_0 rfl ?_
  refine zr_dup F zd_XPacker_putBit_1 rfl ?_
  obtain ⟨le2, hs1, h⟩ := zoS_s h
  refine zr_get F 4 9 zd_XPacker_putBit_2 (zW_o hs1 (by decide)) rfl (by decide) zw_92 rfl (by rfl) ?_
  refine zr_iload_n F zd_XPacker_putBit_5 rfl ?_
  refine zr_aload_n F zd_XPacker_putBit_6 rfl ?_
  obtain ⟨le4, hs3, h⟩ := zoS_s h
  refine zr_get F 4 10 zd_XPacker_putBit_7 (zW_o hs3 (by decide)) rfl (by decide) zw_93 rfl (by rfl) ?_
  refine zr_ishl F zd_XPacker_putBit_10 ?_
  refine zr_pcn 11 rfl ?_
  refine zr_ior F zd_XPacker_putBit_11 ?_
  obtain ⟨x5, ex5, h⟩ := zoL_s h
  rw [← ex5]
  obtain ⟨le7, hs6, h⟩ := zoS_s h
  refine zr_put F 4 9 zd_XPacker_putBit_12 (zW_o hs6 (by decide)) rfl (by decide) zw_92 rfl rfl rfl rfl (by exact (Nat.le_of_ble_eq_true rfl)) ?_
  obtain ⟨mm8, emm8, h⟩ := zoL_s h
  refine zr_norm (zW tA b sh mm8) _ (by rw [emm8]; exact zW_pI (v := x5) hs6 (by decide) (zf_I_4_9 b _ _ _)) rfl ?_
  refine zr_aload_n F zd_XPacker_putBit_15 rfl ?_
  refine zr_dup F zd_XPacker_putBit_16 rfl ?_
  obtain ⟨le10, hs9, h⟩ := zoS_s h
  refine zr_get F 4 10 zd_XPacker_putBit_17 (zW_o hs9 (by decide)) rfl (by decide) zw_93 rfl (by rfl) ?_
  refine zr_iconstv (v := 1) F zd_XPacker_putBit_20 (by decide) ?_
  refine zr_iadd F zd_XPacker_putBit_21 ?_
  obtain ⟨x11, ex11, h⟩ := zoL_s h
  rw [← ex11]
  obtain ⟨le13, hs12, h⟩ := zoS_s h
  refine zr_put F 4 10 zd_XPacker_putBit_22 (zW_o hs12 (by decide)) rfl (by decide) zw_93 rfl rfl rfl rfl (by exact (Nat.le_of_ble_eq_true rfl)) ?_
  obtain ⟨mm14, emm14, h⟩ := zoL_s h
  refine zr_norm (zW tA b sh mm14) _ (by rw [emm14]; exact zW_pI (v := x11) hs12 (by decide) (zf_I_4_10 b _ _ _)) rfl ?_
  refine zr_pcn 25 rfl ?_
  refine zr_aload_n F zd_XPacker_putBit_25 rfl ?_
  obtain ⟨le16, hs15, h⟩ := zoS_s h
  refine zr_get F 4 10 zd_XPacker_putBit_26 (zW_o hs15 (by decide)) rfl (by decide) zw_93 rfl (by rfl) ?_
  refine zr_bipushv (v := 8) F zd_XPacker_putBit_29 (by decide) ?_
  refine zr_icmp_ne F 80 zd_XPacker_putBit_31 (by decide) (fun hb17 => ?_) (fun hb17 => ?_)
  ·
    rw [if_neg hb17] at h
    obtain rfl := Option.some.inj h
    exact zr_vret F hr zd_XPacker_putBit_80 (Nat.le_of_ble_eq_true rfl) (Nat.le_of_ble_eq_true rfl) ⟨rfl, rfl, rfl⟩
  ·
    rw [if_pos hb17] at h
    refine zr_aload_n F zd_XPacker_putBit_34 rfl ?_
    obtain ⟨le19, hs18, h⟩ := zoS_s h
    refine zr_get F 4 1 zd_XPacker_putBit_35 (zW_o hs18 (by decide)) rfl (by decide) zw_83 rfl (by rfl) ?_
    refine zr_aload_n F zd_XPacker_putBit_38 rfl ?_
    refine zr_pcn 39 rfl ?_
    obtain ⟨le21, hs20, h⟩ := zoS_s h
    obtain ⟨a22, ea22, h⟩ := zoB_s h
    refine zr_get F 4 0 zd_XPacker_putBit_39 (zW_o hs20 (by decide)) rfl (by decide) zw_81 rfl (by rfl) ?_
    refine zr_tor ea22 ?_
    obtain ⟨t25, le24, hs23, h⟩ := zoA_s h
    refine zr_lenW F zd_XPacker_putBit_42 hs23 ?_
    refine zr_icmp_ge F 80 zd_XPacker_putBit_43 (by decide) (fun hb26 => ?_) (fun hb26 => ?_)
    ·
      rw [if_pos hb26] at h
      obtain rfl := Option.some.inj h
      exact zr_vret F hr zd_XPacker_putBit_80 (Nat.le_of_ble_eq_true rfl) (Nat.le_of_ble_eq_true rfl) ⟨rfl, rfl, rfl⟩
    ·
      rw [if_neg hb26] at h
      refine zr_aload_n F zd_XPacker_putBit_46 rfl ?_
      obtain ⟨le28, hs27, h⟩ := zoS_s h
      obtain ⟨a29, ea29, h⟩ := zoB_s h
      refine zr_get F 4 0 zd_XPacker_putBit_47 (zW_o hs27 (by decide)) rfl (by decide) zw_81 rfl (by rfl) ?_
      refine zr_tor ea29 ?_
      refine zr_aload_n F zd_XPacker_putBit_50 rfl ?_
      obtain ⟨le31, hs30, h⟩ := zoS_s h
      refine zr_get F 4 1 zd_XPacker_putBit_51 (zW_o hs30 (by decide)) rfl (by decide) zw_83 rfl (by rfl) ?_
      refine zr_pcn 54 rfl ?_
      refine zr_aload_n F zd_XPacker_putBit_54 rfl ?_
      obtain ⟨le33, hs32, h⟩ := zoS_s h
      refine zr_get F 4 9 zd_XPacker_putBit_55 (zW_o hs32 (by decide)) rfl (by decide) zw_92 rfl (by rfl) ?_
      refine zr_i2b F zd_XPacker_putBit_58 ?_
      obtain ⟨x34, ex34, h⟩ := zoL_s h
      rw [← ex34]
      obtain ⟨i35, ei35, h⟩ := zoL_s h
      rw [← ei35]
      obtain ⟨le37, hs36, h⟩ := zoS_s h
      obtain ⟨hi38, h⟩ := zoI_s h
      refine zr_bast F zd_XPacker_putBit_59 (zW_a1 hs36) hi38 ?_
      obtain ⟨mm39, emm39, h⟩ := zoL_s h
      refine zr_norm (zW tA b sh mm39) _ (by rw [emm39]; exact zW_s1 hs36) rfl ?_
      refine zr_aload_n F zd_XPacker_putBit_60 rfl ?_
      refine zr_dup F zd_XPacker_putBit_61 rfl ?_
      obtain ⟨le41, hs40, h⟩ := zoS_s h
      refine zr_get F 4 1 zd_XPacker_putBit_62 (zW_o hs40 (by decide)) rfl (by decide) zw_83 rfl (by rfl) ?_
      refine zr_iconstv (v := 1) F zd_XPacker_putBit_65 (by decide) ?_
      refine zr_pcn 66 rfl ?_
      refine zr_iadd F zd_XPacker_putBit_66 ?_
      obtain ⟨x42, ex42, h⟩ := zoL_s h
      rw [← ex42]
      obtain ⟨le44, hs43, h⟩ := zoS_s h
      refine zr_put F 4 1 zd_XPacker_putBit_67 (zW_o hs43 (by decide)) rfl (by decide) zw_83 rfl rfl rfl rfl (by exact (Nat.le_of_ble_eq_true rfl)) ?_
      obtain ⟨mm45, emm45, h⟩ := zoL_s h
      refine zr_norm (zW tA b sh mm45) _ (by rw [emm45]; exact zW_pI (v := x42) hs43 (by decide) (zf_I_4_1 b _ _ _)) rfl ?_
      refine zr_aload_n F zd_XPacker_putBit_70 rfl ?_
      refine zr_iconstv (v := 0) F zd_XPacker_putBit_71 (by decide) ?_
      obtain ⟨le47, hs46, h⟩ := zoS_s h
      refine zr_put F 4 9 zd_XPacker_putBit_72 (zW_o hs46 (by decide)) rfl (by decide) zw_92 rfl rfl rfl rfl (by exact (Nat.le_of_ble_eq_true rfl)) ?_
      obtain ⟨mm48, emm48, h⟩ := zoL_s h
      refine zr_norm (zW tA b sh mm48) _ (by rw [emm48]; exact zW_pI (v := 0) hs46 (by decide) (zf_I_4_9 b _ _ _)) rfl ?_
      refine zr_aload_n F zd_XPacker_putBit_75 rfl ?_
      refine zr_iconstv (v := 0) F zd_XPacker_putBit_76 (by decide) ?_
      obtain ⟨le50, hs49, h⟩ := zoS_s h
      refine zr_put F 4 10 zd_XPacker_putBit_77 (zW_o hs49 (by decide)) rfl (by decide) zw_93 rfl rfl rfl rfl (by exact (Nat.le_of_ble_eq_true rfl)) ?_
      obtain ⟨mm51, emm51, h⟩ := zoL_s h
      refine zr_norm (zW tA b sh mm51) _ (by rw [emm51]; exact zW_pI (v := 0) hs49 (by decide) (zf_I_4_10 b _ _ _)) rfl ?_
      refine zr_pcn 80 rfl ?_
      obtain rfl := Option.some.inj h
      exact zr_vret F hr zd_XPacker_putBit_80 (Nat.le_of_ble_eq_true rfl) (Nat.le_of_ble_eq_true rfl) ⟨rfl, rfl, rfl⟩
theorem zf_R_5_3 (b : Nat) (m : zMem) (k : Nat) (v : Option Nat) : (zfl b 5 m k).set 3 (zrf b v) = zfl b 5 (mR m k 3 v) k := by simp [zfl, mR, upd, vp_updL]
theorem zf_I_5_7 (b : Nat) (m : zMem) (k : Nat) (v : Int32) : (zfl b 5 m k).set 7 (.int v) = zfl b 5 (mI m k 7 v) k := by simp [zfl, mI, upd, vp_updL]
theorem zf_I_5_12 (b : Nat) (m : zMem) (k : Nat) (v : Int32) : (zfl b 5 m k).set 12 (.int v) = zfl b 5 (mI m k 12 v) k := by simp [zfl, mI, upd, vp_updL]
theorem zf_L_5_13 (b : Nat) (m : zMem) (k : Nat) (v : Int64) : (zfl b 5 m k).set 13 (.long v) = zfl b 5 (mL m k 13 v) k := by simp [zfl, mL, upd, vp_updL]
theorem zf_I_5_10 (b : Nat) (m : zMem) (k : Nat) (v : Int32) : (zfl b 5 m k).set 10 (.int v) = zfl b 5 (mI m k 10 v) k := by simp [zfl, mI, upd, vp_updL]
def F_XPicture_start (sh : zSh) (mm : zMem) (o : Nat) (x0_ : Nat) (x1_ : Int32) : Option zMem := zoS (sh o) 5 (fun le2 => zoL (mR mm o 3 (some x0_)) (fun mm3 => zoS (sh o) 5 (fun le5 => zoL (mI mm3 o 7 x1_) (fun mm6 => zoS (sh o) 5 (fun le8 => zoL (mI mm6 o 12 1) (fun mm9 => zoS (sh o) 5 (fun le11 => zoL (mL mm9 o 13 0) (fun mm12 => zoS (sh o) 5 (fun le14 => zoL (mI mm12 o 10 0) (fun mm15 => some mm15))))))))))
set_option maxHeartbeats 4000000 in
set_option maxRecDepth 100000 in
theorem k_XPicture_start (l : Launch) (D : va_G) (tA : Nat → ClassId) (b : Nat) (sh : zSh) (n : Nat) {mm : zMem} {o : Nat} {x0_ : Nat} {x1_ : Int32} {r : zMem} (h : F_XPicture_start sh mm o x0_ x1_ = some r) : zM l D tA b zy_XPicture_start zb_XPicture_start 3 none 0 0 0 0 [.ref (b + o), .ref (b + x0_), .int x1_] (zW tA b sh mm) n (zE none (zW tA b sh r) n) := by
  unfold F_XPicture_start at h
  refine zM_of (own := "OrreryBox$Picture") (plainFor_of_name (by decide)) rfl (Nat.le_of_ble_eq_true rfl) (fun p e s m below meth c F hr hin hH => ?_)
  refine zr_aload_n F zd_XPicture_start_0 rfl ?_
  refine zr_aload_n F zd_XPicture_start_1 rfl ?_
  obtain ⟨le2, hs1, h⟩ := zoS_s h
  refine zr_put F 5 3 zd_XPicture_start_2 (zW_o hs1 (by decide)) rfl (by decide) zw_435 rfl rfl rfl rfl (by exact (Nat.le_of_ble_eq_true rfl)) ?_
  obtain ⟨mm3, emm3, h⟩ := zoL_s h
  refine zr_norm (zW tA b sh mm3) _ (by rw [emm3]; exact zW_pR (v := (some x0_)) hs1 (by decide) (zf_R_5_3 b _ _ _)) rfl ?_
  refine zr_aload_n F zd_XPicture_start_5 rfl ?_
  refine zr_iload_n F zd_XPicture_start_6 rfl ?_
  obtain ⟨le5, hs4, h⟩ := zoS_s h
  refine zr_put F 5 7 zd_XPicture_start_7 (zW_o hs4 (by decide)) rfl (by decide) zw_440 rfl rfl rfl rfl (by exact (Nat.le_of_ble_eq_true rfl)) ?_
  obtain ⟨mm6, emm6, h⟩ := zoL_s h
  refine zr_norm (zW tA b sh mm6) _ (by rw [emm6]; exact zW_pI (v := x1_) hs4 (by decide) (zf_I_5_7 b _ _ _)) rfl ?_
  refine zr_aload_n F zd_XPicture_start_10 rfl ?_
  refine zr_pcn 11 rfl ?_
  refine zr_iconstv (v := 1) F zd_XPicture_start_11 (by decide) ?_
  obtain ⟨le8, hs7, h⟩ := zoS_s h
  refine zr_put F 5 12 zd_XPicture_start_12 (zW_o hs7 (by decide)) rfl (by decide) zw_445 rfl rfl rfl rfl (by exact (Nat.le_of_ble_eq_true rfl)) ?_
  obtain ⟨mm9, emm9, h⟩ := zoL_s h
  refine zr_norm (zW tA b sh mm9) _ (by rw [emm9]; exact zW_pI (v := 1) hs7 (by decide) (zf_I_5_12 b _ _ _)) rfl ?_
  refine zr_aload_n F zd_XPicture_start_15 rfl ?_
  refine zr_lconstv (v := 0) F zd_XPicture_start_16 (by decide) ?_
  obtain ⟨le11, hs10, h⟩ := zoS_s h
  refine zr_put F 5 13 zd_XPicture_start_17 (zW_o hs10 (by decide)) rfl (by decide) zw_446 rfl rfl rfl rfl (by exact (Nat.le_of_ble_eq_true rfl)) ?_
  obtain ⟨mm12, emm12, h⟩ := zoL_s h
  refine zr_norm (zW tA b sh mm12) _ (by rw [emm12]; exact zW_pL (v := 0) hs10 (by decide) (zf_L_5_13 b _ _ _)) rfl ?_
  refine zr_aload_n F zd_XPicture_start_20 rfl ?_
  refine zr_iconstv (v := 0) F zd_XPicture_start_21 (by decide) ?_
  obtain ⟨le14, hs13, h⟩ := zoS_s h
  refine zr_put F 5 10 zd_XPicture_start_22 (zW_o hs13 (by decide)) rfl (by decide) zw_443 rfl rfl rfl rfl (by exact (Nat.le_of_ble_eq_true rfl)) ?_
  obtain ⟨mm15, emm15, h⟩ := zoL_s h
  refine zr_norm (zW tA b sh mm15) _ (by rw [emm15]; exact zW_pI (v := 0) hs13 (by decide) (zf_I_5_10 b _ _ _)) rfl ?_
  refine zr_pcn 25 rfl ?_
  obtain rfl := Option.some.inj h
  exact zr_vret F hr zd_XPicture_start_25 (Nat.le_of_ble_eq_true rfl) (Nat.le_of_ble_eq_true rfl) ⟨rfl, rfl, rfl⟩
def F_XPicture_lacks (sh : zSh) (mm : zMem) (o : Nat) (x0_ : Int32) : Option (Int32 × zMem) := zoS (sh o) 5 (fun le2 => (if (mm.1 o 12) = 0 then some (0, mm) else (if x0_ < 0 then some (0, mm) else zoS (sh o) 5 (fun le6 => (if (mm.1 o 0) ≤ x0_ then some (0, mm) else zoS (sh o) 5 (fun le9 => (if (lg_cmp (((mm.2.1 o 13) >>> ((x0_ : Int32).toInt64 &&& 63)) &&& 1) 0) = 0 then some (1, mm) else some (0, mm))))))))
set_option maxHeartbeats 4000000 in
set_option maxRecDepth 100000 in
theorem k_XPicture_lacks (l : Launch) (D : va_G) (tA : Nat → ClassId) (b : Nat) (sh : zSh) (n : Nat) {mm : zMem} {o : Nat} {x0_ : Int32} {r : (Int32 × zMem)} (h : F_XPicture_lacks sh mm o x0_ = some r) : zM l D tA b zy_XPicture_lacks zb_XPicture_lacks 2 (some .boolean) 0 0 0 0 [.ref (b + o), .int x0_] (zW tA b sh mm) n (zE (some (.int (r.1))) (zW tA b sh r.2) n) := by
  unfold F_XPicture_lacks at h
  refine zM_of (own := "OrreryBox$Picture") (plainFor_of_name (by decide)) rfl (Nat.le_of_ble_eq_true rfl) (fun p e s m below meth c F hr hin hH => ?_)
  refine zr_aload_n F zd_XPicture_lacks_0 rfl ?_
  obtain ⟨le2, hs1, h⟩ := zoS_s h
  refine zr_get F 5 12 zd_XPicture_lacks_1 (zW_o hs1 (by decide)) rfl (by decide) zw_445 rfl (by rfl) ?_
  refine zr_if_eq F 36 zd_XPicture_lacks_4 (by decide) (fun hb3 => ?_) (fun hb3 => ?_)
  ·
    rw [if_pos hb3] at h
    refine zr_iconstv (v := 0) F zd_XPicture_lacks_36 (by decide) ?_
    obtain rfl := Option.some.inj h
    exact zr_zret F hr rfl zd_XPicture_lacks_37 (Nat.le_of_ble_eq_true rfl) (Nat.le_of_ble_eq_true rfl) ⟨rfl, rfl, rfl⟩
  ·
    rw [if_neg hb3] at h
    refine zr_iload_n F zd_XPicture_lacks_7 rfl ?_
    refine zr_if_lt F 36 zd_XPicture_lacks_8 (by decide) (fun hb4 => ?_) (fun hb4 => ?_)
    ·
      rw [if_pos hb4] at h
      refine zr_pcn 36 rfl ?_
      refine zr_iconstv (v := 0) F zd_XPicture_lacks_36 (by decide) ?_
      obtain rfl := Option.some.inj h
      exact zr_zret F hr rfl zd_XPicture_lacks_37 (Nat.le_of_ble_eq_true rfl) (Nat.le_of_ble_eq_true rfl) ⟨rfl, rfl, rfl⟩
    ·
      rw [if_neg hb4] at h
      refine zr_iload_n F zd_XPicture_lacks_11 rfl ?_
      refine zr_aload_n F zd_XPicture_lacks_12 rfl ?_
      obtain ⟨le6, hs5, h⟩ := zoS_s h
      refine zr_get F 5 0 zd_XPicture_lacks_13 (zW_o hs5 (by decide)) rfl (by decide) zw_429 rfl (by rfl) ?_
      refine zr_icmp_ge F 36 zd_XPicture_lacks_16 (by decide) (fun hb7 => ?_) (fun hb7 => ?_)
      ·
        rw [if_pos hb7] at h
        refine zr_iconstv (v := 0) F zd_XPicture_lacks_36 (by decide) ?_
        obtain rfl := Option.some.inj h
        exact zr_zret F hr rfl zd_XPicture_lacks_37 (Nat.le_of_ble_eq_true rfl) (Nat.le_of_ble_eq_true rfl) ⟨rfl, rfl, rfl⟩
      ·
        rw [if_neg hb7] at h
        refine zr_pcn 19 rfl ?_
        refine zr_aload_n F zd_XPicture_lacks_19 rfl ?_
        obtain ⟨le9, hs8, h⟩ := zoS_s h
        refine zr_get F 5 13 zd_XPicture_lacks_20 (zW_o hs8 (by decide)) rfl (by decide) zw_446 rfl (by rfl) ?_
        refine zr_iload_n F zd_XPicture_lacks_23 rfl ?_
        refine zr_lshr F zd_XPicture_lacks_24 ?_
        refine zr_lconstv (v := 1) F zd_XPicture_lacks_25 (by decide) ?_
        refine zr_land F zd_XPicture_lacks_26 ?_
        refine zr_lconstv (v := 0) F zd_XPicture_lacks_27 (by decide) ?_
        refine zr_lcmp F zd_XPicture_lacks_28 ?_
        refine zr_pcn 29 rfl ?_
        refine zr_if_ne F 36 zd_XPicture_lacks_29 (by decide) (fun hb10 => ?_) (fun hb10 => ?_)
        ·
          rw [if_neg hb10] at h
          refine zr_iconstv (v := 0) F zd_XPicture_lacks_36 (by decide) ?_
          obtain rfl := Option.some.inj h
          exact zr_zret F hr rfl zd_XPicture_lacks_37 (Nat.le_of_ble_eq_true rfl) (Nat.le_of_ble_eq_true rfl) ⟨rfl, rfl, rfl⟩
        ·
          rw [if_pos hb10] at h
          refine zr_iconstv (v := 1) F zd_XPicture_lacks_32 (by decide) ?_
          refine zr_goto F 37 zd_XPicture_lacks_33 (by decide) ?_
          obtain rfl := Option.some.inj h
          exact zr_zret F hr rfl zd_XPicture_lacks_37 (Nat.le_of_ble_eq_true rfl) (Nat.le_of_ble_eq_true rfl) ⟨rfl, rfl, rfl⟩
def F_XPicture_shows (sh : zSh) (mm : zMem) (o : Nat) (x0_ : Int32) (x1_ : Int32) : Option (Int32 × zMem) := zoS (sh o) 5 (fun le2 => (if (mm.1 o 12) = 0 then some (0, mm) else zoS (sh o) 5 (fun le5 => zoS (sh o) 5 (fun le7 => (if (lg_cmp (((mm.2.1 o 13) >>> (((((x1_ / 8) * (mm.1 o 6)) + (x0_ / 8)) : Int32).toInt64 &&& 63)) &&& 1) 1) = 0 then some (1, mm) else some (0, mm))))))
set_option maxHeartbeats 4000000 in
set_option maxRecDepth 100000 in
theorem k_XPicture_shows (l : Launch) (D : va_G) (tA : Nat → ClassId) (b : Nat) (sh : zSh) (n : Nat) {mm : zMem} {o : Nat} {x0_ : Int32} {x1_ : Int32} {r : (Int32 × zMem)} (h : F_XPicture_shows sh mm o x0_ x1_ = some r) : zM l D tA b zy_XPicture_shows zb_XPicture_shows 3 (some .boolean) 0 0 0 0 [.ref (b + o), .int x0_, .int x1_] (zW tA b sh mm) n (zE (some (.int (r.1))) (zW tA b sh r.2) n) := by
  unfold F_XPicture_shows at h
  refine zM_of (own := "OrreryBox$Picture") (plainFor_of_name (by decide)) rfl (Nat.le_of_ble_eq_true rfl) (fun p e s m below meth c F hr hin hH => ?_)
  refine zr_aload_n F zd_XPicture_shows_0 rfl ?_
  obtain ⟨le2, hs1, h⟩ := zoS_s h
  refine zr_get F 5 12 zd_XPicture_shows_1 (zW_o hs1 (by decide)) rfl (by decide) zw_445 rfl (by rfl) ?_
  refine zr_if_eq F 37 zd_XPicture_shows_4 (by decide) (fun hb3 => ?_) (fun hb3 => ?_)
  ·
    rw [if_pos hb3] at h
    refine zr_iconstv (v := 0) F zd_XPicture_shows_37 (by decide) ?_
    obtain rfl := Option.some.inj h
    exact zr_zret F hr rfl zd_XPicture_shows_38 (Nat.le_of_ble_eq_true rfl) (Nat.le_of_ble_eq_true rfl) ⟨rfl, rfl, rfl⟩
  ·
    rw [if_neg hb3] at h
    refine zr_aload_n F zd_XPicture_shows_7 rfl ?_
    obtain ⟨le5, hs4, h⟩ := zoS_s h
    refine zr_get F 5 13 zd_XPicture_shows_8 (zW_o hs4 (by decide)) rfl (by decide) zw_446 rfl (by rfl) ?_
    refine zr_pcn 11 rfl ?_
    refine zr_iload_n F zd_XPicture_shows_11 rfl ?_
    refine zr_bipushv (v := 8) F zd_XPicture_shows_12 (by decide) ?_
    refine zr_idiv F zd_XPicture_shows_14 (by decide) ?_
    refine zr_aload_n F zd_XPicture_shows_15 rfl ?_
    obtain ⟨le7, hs6, h⟩ := zoS_s h
    refine zr_get F 5 6 zd_XPicture_shows_16 (zW_o hs6 (by decide)) rfl (by decide) zw_439 rfl (by rfl) ?_
    refine zr_imul F zd_XPicture_shows_19 ?_
    refine zr_iload_n F zd_XPicture_shows_20 rfl ?_
    refine zr_bipushv (v := 8) F zd_XPicture_shows_21 (by decide) ?_
    refine zr_pcn 23 rfl ?_
    refine zr_idiv F zd_XPicture_shows_23 (by decide) ?_
    refine zr_iadd F zd_XPicture_shows_24 ?_
    refine zr_lshr F zd_XPicture_shows_25 ?_
    refine zr_lconstv (v := 1) F zd_XPicture_shows_26 (by decide) ?_
    refine zr_land F zd_XPicture_shows_27 ?_
    refine zr_lconstv (v := 1) F zd_XPicture_shows_28 (by decide) ?_
    refine zr_lcmp F zd_XPicture_shows_29 ?_
    refine zr_if_ne F 37 zd_XPicture_shows_30 (by decide) (fun hb8 => ?_) (fun hb8 => ?_)
    ·
      rw [if_neg hb8] at h
      refine zr_pcn 37 rfl ?_
      refine zr_iconstv (v := 0) F zd_XPicture_shows_37 (by decide) ?_
      obtain rfl := Option.some.inj h
      exact zr_zret F hr rfl zd_XPicture_shows_38 (Nat.le_of_ble_eq_true rfl) (Nat.le_of_ble_eq_true rfl) ⟨rfl, rfl, rfl⟩
    ·
      rw [if_pos hb8] at h
      refine zr_iconstv (v := 1) F zd_XPicture_shows_33 (by decide) ?_
      refine zr_goto F 38 zd_XPicture_shows_34 (by decide) ?_
      obtain rfl := Option.some.inj h
      exact zr_zret F hr rfl zd_XPicture_shows_38 (Nat.le_of_ble_eq_true rfl) (Nat.le_of_ble_eq_true rfl) ⟨rfl, rfl, rfl⟩
def F_XPicture_isWhole (sh : zSh) (mm : zMem) (o : Nat) : Option (Int32 × zMem) := zoS (sh o) 5 (fun le2 => (if (mm.1 o 12) = 0 then some (0, mm) else zoS (sh o) 5 (fun le5 => zoS (sh o) 5 (fun le7 => (if (lg_cmp (mm.2.1 o 13) ((1 <<< (((mm.1 o 0) : Int32).toInt64 &&& 63)) - 1)) = 0 then some (1, mm) else some (0, mm))))))
set_option maxHeartbeats 4000000 in
set_option maxRecDepth 100000 in
theorem k_XPicture_isWhole (l : Launch) (D : va_G) (tA : Nat → ClassId) (b : Nat) (sh : zSh) (n : Nat) {mm : zMem} {o : Nat} {r : (Int32 × zMem)} (h : F_XPicture_isWhole sh mm o = some r) : zM l D tA b zy_XPicture_isWhole zb_XPicture_isWhole 1 (some .boolean) 0 0 0 0 [.ref (b + o)] (zW tA b sh mm) n (zE (some (.int (r.1))) (zW tA b sh r.2) n) := by
  unfold F_XPicture_isWhole at h
  refine zM_of (own := "OrreryBox$Picture") (plainFor_of_name (by decide)) rfl (Nat.le_of_ble_eq_true rfl) (fun p e s m below meth c F hr hin hH => ?_)
  refine zr_aload_n F zd_XPicture_isWhole_0 rfl ?_
  obtain ⟨le2, hs1, h⟩ := zoS_s h
  refine zr_get F 5 12 zd_XPicture_isWhole_1 (zW_o hs1 (by decide)) rfl (by decide) zw_445 rfl (by rfl) ?_
  refine zr_if_eq F 27 zd_XPicture_isWhole_4 (by decide) (fun hb3 => ?_) (fun hb3 => ?_)
  ·
    rw [if_pos hb3] at h
    refine zr_iconstv (v := 0) F zd_XPicture_isWhole_27 (by decide) ?_
    obtain rfl := Option.some.inj h
    exact zr_zret F hr rfl zd_XPicture_isWhole_28 (Nat.le_of_ble_eq_true rfl) (Nat.le_of_ble_eq_true rfl) ⟨rfl, rfl, rfl⟩
  ·
    rw [if_neg hb3] at h
    refine zr_aload_n F zd_XPicture_isWhole_7 rfl ?_
    obtain ⟨le5, hs4, h⟩ := zoS_s h
    refine zr_get F 5 13 zd_XPicture_isWhole_8 (zW_o hs4 (by decide)) rfl (by decide) zw_446 rfl (by rfl) ?_
    refine zr_pcn 11 rfl ?_
    refine zr_lconstv (v := 1) F zd_XPicture_isWhole_11 (by decide) ?_
    refine zr_aload_n F zd_XPicture_isWhole_12 rfl ?_
    obtain ⟨le7, hs6, h⟩ := zoS_s h
    refine zr_get F 5 0 zd_XPicture_isWhole_13 (zW_o hs6 (by decide)) rfl (by decide) zw_429 rfl (by rfl) ?_
    refine zr_lshl F zd_XPicture_isWhole_16 ?_
    refine zr_lconstv (v := 1) F zd_XPicture_isWhole_17 (by decide) ?_
    refine zr_lsub F zd_XPicture_isWhole_18 ?_
    refine zr_lcmp F zd_XPicture_isWhole_19 ?_
    refine zr_if_ne F 27 zd_XPicture_isWhole_20 (by decide) (fun hb8 => ?_) (fun hb8 => ?_)
    ·
      rw [if_neg hb8] at h
      refine zr_pcn 27 rfl ?_
      refine zr_iconstv (v := 0) F zd_XPicture_isWhole_27 (by decide) ?_
      obtain rfl := Option.some.inj h
      exact zr_zret F hr rfl zd_XPicture_isWhole_28 (Nat.le_of_ble_eq_true rfl) (Nat.le_of_ble_eq_true rfl) ⟨rfl, rfl, rfl⟩
    ·
      rw [if_pos hb8] at h
      refine zr_iconstv (v := 1) F zd_XPicture_isWhole_23 (by decide) ?_
      refine zr_goto F 28 zd_XPicture_isWhole_24 (by decide) ?_
      obtain rfl := Option.some.inj h
      exact zr_zret F hr rfl zd_XPicture_isWhole_28 (Nat.le_of_ble_eq_true rfl) (Nat.le_of_ble_eq_true rfl) ⟨rfl, rfl, rfl⟩
abbrev zb_XPicture_wipe : ByteArray := prog_6_method_8_code
def zy_XPicture_wipe : MethodName := ⟨"OrreryBox$Picture", "wipe", "()V"⟩
theorem zc_XPicture_wipe : Cond.code zy_XPicture_wipe zb_XPicture_wipe 3 none ∈ gw := gw_t 784 (by decide +kernel) rfl
theorem zq_XPicture_wipe : zy_XPicture_wipe.cls ≠ "java/lang/invoke/MethodHandle" ∧ zy_XPicture_wipe.cls ≠ "java/lang/invoke/VarHandle" ∧ (parseMethodDescriptor zy_XPicture_wipe.desc).map (fun d => d.parameters.length) = some 0 := by decide +kernel
theorem zd_XPicture_wipe_0 : decode zb_XPicture_wipe 0 = .ok (.aload_n 0, 1) := by decide +kernel
theorem zd_XPicture_wipe_1 : decode zb_XPicture_wipe 1 = .ok (.getfield 72, 3) := by decide +kernel
theorem zd_XPicture_wipe_4 : decode zb_XPicture_wipe 4 = .ok (.istore_n 1, 1) := by decide +kernel
theorem zd_XPicture_wipe_5 : decode zb_XPicture_wipe 5 = .ok (.iload_n 1, 1) := by decide +kernel
theorem zd_XPicture_wipe_6 : decode zb_XPicture_wipe 6 = .ok (.aload_n 0, 1) := by decide +kernel
theorem zd_XPicture_wipe_7 : decode zb_XPicture_wipe 7 = .ok (.getfield 84, 3) := by decide +kernel
theorem zd_XPicture_wipe_10 : decode zb_XPicture_wipe 10 = .ok (.if_icmp .gt 59, 3) := by decide +kernel
theorem zd_XPicture_wipe_13 : decode zb_XPicture_wipe 13 = .ok (.aload_n 0, 1) := by decide +kernel
theorem zd_XPicture_wipe_14 : decode zb_XPicture_wipe 14 = .ok (.getfield 69, 3) := by decide +kernel
theorem zd_XPicture_wipe_17 : decode zb_XPicture_wipe 17 = .ok (.istore_n 2, 1) := by decide +kernel
theorem zd_XPicture_wipe_18 : decode zb_XPicture_wipe 18 = .ok (.iload_n 2, 1) := by decide +kernel
theorem zd_XPicture_wipe_19 : decode zb_XPicture_wipe 19 = .ok (.aload_n 0, 1) := by decide +kernel
theorem zd_XPicture_wipe_20 : decode zb_XPicture_wipe 20 = .ok (.getfield 81, 3) := by decide +kernel
theorem zd_XPicture_wipe_23 : decode zb_XPicture_wipe 23 = .ok (.if_icmp .gt 40, 3) := by decide +kernel
theorem zd_XPicture_wipe_26 : decode zb_XPicture_wipe 26 = .ok (.aload_n 0, 1) := by decide +kernel
theorem zd_XPicture_wipe_27 : decode zb_XPicture_wipe 27 = .ok (.getfield 41, 3) := by decide +kernel
theorem zd_XPicture_wipe_30 : decode zb_XPicture_wipe 30 = .ok (.iload_n 1, 1) := by decide +kernel
theorem zd_XPicture_wipe_31 : decode zb_XPicture_wipe 31 = .ok (.aload_n 0, 1) := by decide +kernel
theorem zd_XPicture_wipe_32 : decode zb_XPicture_wipe 32 = .ok (.getfield 28, 3) := by decide +kernel
theorem zd_XPicture_wipe_35 : decode zb_XPicture_wipe 35 = .ok (.imul, 1) := by decide +kernel
theorem zd_XPicture_wipe_36 : decode zb_XPicture_wipe 36 = .ok (.iload_n 2, 1) := by decide +kernel
theorem zd_XPicture_wipe_37 : decode zb_XPicture_wipe 37 = .ok (.iadd, 1) := by decide +kernel
theorem zd_XPicture_wipe_38 : decode zb_XPicture_wipe 38 = .ok (.aload_n 0, 1) := by decide +kernel
theorem zd_XPicture_wipe_39 : decode zb_XPicture_wipe 39 = .ok (.getfield 51, 3) := by decide +kernel
theorem zd_XPicture_wipe_42 : decode zb_XPicture_wipe 42 = .ok (.iastore, 1) := by decide +kernel
theorem zd_XPicture_wipe_43 : decode zb_XPicture_wipe 43 = .ok (.aload_n 0, 1) := by decide +kernel
theorem zd_XPicture_wipe_44 : decode zb_XPicture_wipe 44 = .ok (.getfield 44, 3) := by decide +kernel
theorem zd_XPicture_wipe_47 : decode zb_XPicture_wipe 47 = .ok (.iload_n 1, 1) := by decide +kernel
theorem zd_XPicture_wipe_48 : decode zb_XPicture_wipe 48 = .ok (.aload_n 0, 1) := by decide +kernel
theorem zd_XPicture_wipe_49 : decode zb_XPicture_wipe 49 = .ok (.getfield 28, 3) := by decide +kernel
theorem zd_XPicture_wipe_52 : decode zb_XPicture_wipe 52 = .ok (.imul, 1) := by decide +kernel
theorem zd_XPicture_wipe_53 : decode zb_XPicture_wipe 53 = .ok (.iload_n 2, 1) := by decide +kernel
theorem zd_XPicture_wipe_54 : decode zb_XPicture_wipe 54 = .ok (.iadd, 1) := by decide +kernel
theorem zd_XPicture_wipe_55 : decode zb_XPicture_wipe 55 = .ok (.iconst 0, 1) := by decide +kernel
theorem zd_XPicture_wipe_56 : decode zb_XPicture_wipe 56 = .ok (.iastore, 1) := by decide +kernel
theorem zd_XPicture_wipe_57 : decode zb_XPicture_wipe 57 = .ok (.iinc 2 1, 3) := by decide +kernel
theorem zd_XPicture_wipe_60 : decode zb_XPicture_wipe 60 = .ok (.goto (-42), 3) := by decide +kernel
theorem zd_XPicture_wipe_63 : decode zb_XPicture_wipe 63 = .ok (.iinc 1 1, 3) := by decide +kernel
theorem zd_XPicture_wipe_66 : decode zb_XPicture_wipe 66 = .ok (.goto (-61), 3) := by decide +kernel
theorem zd_XPicture_wipe_69 : decode zb_XPicture_wipe 69 = .ok (.return_, 1) := by decide +kernel
theorem zw_448 : (Jvm.Cond.fieldLink "OrreryBox$Picture" (72 : Nat) "OrreryBox$Picture" "top" "I") ∈ gw := gw_t 448 (by decide +kernel) rfl
theorem zw_450 : (Jvm.Cond.fieldLink "OrreryBox$Picture" (84 : Nat) "OrreryBox$Picture" "bottom" "I") ∈ gw := gw_t 450 (by decide +kernel) rfl
theorem zw_447 : (Jvm.Cond.fieldLink "OrreryBox$Picture" (69 : Nat) "OrreryBox$Picture" "left" "I") ∈ gw := gw_t 447 (by decide +kernel) rfl
theorem zw_449 : (Jvm.Cond.fieldLink "OrreryBox$Picture" (81 : Nat) "OrreryBox$Picture" "right" "I") ∈ gw := gw_t 449 (by decide +kernel) rfl
def L_XPicture_wipe_18 (sh : zSh) (fuel : Nat) (v0 : Nat) (v1 : Int32) (v2 : Int32) (mm : zMem) : Option (Nat × Int32 × Int32 × zMem) := match fuel with
  | 0 => none
  | fu + 1 => zoS (sh v0) 5 (fun le11 => (if (mm.1 v0 16) < v2 then some (v0, v1, v2, mm) else zoS (sh v0) 5 (fun le14 => Option.bind (mm.2.2 v0 1) (fun a15 => zoS (sh v0) 5 (fun le17 => zoS (sh v0) 5 (fun le19 => zoL (mm.1 v0 7) (fun x20 => zoL ((v1 * (mm.1 v0 4)) + v2) (fun i21 => zoS (sh a15) 100 (fun le23 => if (i21 : Int32) < 0 ∨ le23 ≤ (i21 : Int32).toNatClampNeg then none else zoL (mI mm a15 (i21 : Int32).toNatClampNeg x20) (fun mm25 => zoS (sh v0) 5 (fun le27 => Option.bind (mm25.2.2 v0 2) (fun a28 => zoS (sh v0) 5 (fun le30 => zoL ((v1 * (mm25.1 v0 4)) + v2) (fun i31 => zoS (sh a28) 100 (fun le33 => if (i31 : Int32) < 0 ∨ le33 ≤ (i31 : Int32).toNatClampNeg then none else zoL (mI mm25 a28 (i31 : Int32).toNatClampNeg 0) (fun mm35 => L_XPicture_wipe_18 sh fu v0 v1 (v2 + 1) mm35))))))))))))))))
set_option maxHeartbeats 4000000 in
set_option maxRecDepth 100000 in
theorem lp_XPicture_wipe_18 {p : Program} {l : Launch} {e : Env} {s : State} {m : MethodId} {args : Array Value} {below : List Frame} {meth : Method} {c : Code} {D : va_G} {tA : Nat → ClassId} {b n : Nat} {post : Option Value → zV → Nat → Prop} {sh : zSh} (F : zF p s m args meth c zb_XPicture_wipe 3 "OrreryBox$Picture" D tA b) : ∀ (fuel : Nat) (v0 : Nat) (v1 : Int32) (v2 : Int32) (mm : zMem) (r : Nat × Int32 × Int32 × zMem), L_XPicture_wipe_18 sh fuel v0 v1 v2 mm = some r → (Z p l e { frames := 0, cells := 0, slots := 0, locals := 0 } s m args below meth c D b 3 (MQ below (zQ D b post) args s 0 0 (fun q => b ≤ q)) (zW tA b sh r.2.2.2) n 0 0 63 [(0, .ref (b + (r.1))), (1, .int (r.2.1)), (2, .int (r.2.2.1))] []) → Z p l e { frames := 0, cells := 0, slots := 0, locals := 0 } s m args below meth c D b 3 (MQ below (zQ D b post) args s 0 0 (fun q => b ≤ q)) (zW tA b sh mm) n 0 0 18 [(0, .ref (b + v0)), (1, .int v1), (2, .int v2)] [] := by
  intro fuel
  induction fuel with
  | zero =>
    intro v0 v1 v2 mm r h
    cases h
  | succ fu ih =>
    intro v0 v1 v2 mm r h hx0
    rw [L_XPicture_wipe_18] at h
    refine zr_iload_n F zd_XPicture_wipe_18 rfl ?_
    refine zr_aload_n F zd_XPicture_wipe_19 rfl ?_
    obtain ⟨le11, hs10, h⟩ := zoS_s h
    refine zr_get F 5 16 zd_XPicture_wipe_20 (zW_o hs10 (by decide)) rfl (by decide) zw_449 rfl (by rfl) ?_
    refine zr_icmp_gt F 63 zd_XPicture_wipe_23 (by decide) (fun hb12 => ?_) (fun hb12 => ?_)
    ·
      rw [if_pos hb12] at h
      obtain rfl := Option.some.inj h
      refine zr_loc (L' := [(0, .ref (b + v0)), (1, .int v1), (2, .int v2)]) ⟨rfl, rfl, rfl, trivial⟩ ?_
      exact hx0 
    ·
      rw [if_neg hb12] at h
      refine zr_aload_n F zd_XPicture_wipe_26 rfl ?_
      refine zr_pcn 27 rfl ?_
      obtain ⟨le14, hs13, h⟩ := zoS_s h
      obtain ⟨a15, ea15, h⟩ := zoB_s h
      refine zr_get F 5 1 zd_XPicture_wipe_27 (zW_o hs13 (by decide)) rfl (by decide) zw_431 rfl (by rfl) ?_
      refine zr_tor ea15 ?_
      refine zr_iload_n F zd_XPicture_wipe_30 rfl ?_
      refine zr_aload_n F zd_XPicture_wipe_31 rfl ?_
      obtain ⟨le17, hs16, h⟩ := zoS_s h
      refine zr_get F 5 4 zd_XPicture_wipe_32 (zW_o hs16 (by decide)) rfl (by decide) zw_437 rfl (by rfl) ?_
      refine zr_imul F zd_XPicture_wipe_35 ?_
      refine zr_iload_n F zd_XPicture_wipe_36 rfl ?_
      refine zr_iadd F zd_XPicture_wipe_37 ?_
      refine zr_aload_n F zd_XPicture_wipe_38 rfl ?_
      refine zr_pcn 39 rfl ?_
      obtain ⟨le19, hs18, h⟩ := zoS_s h
      refine zr_get F 5 7 zd_XPicture_wipe_39 (zW_o hs18 (by decide)) rfl (by decide) zw_440 rfl (by rfl) ?_
      obtain ⟨x20, ex20, h⟩ := zoL_s h
      rw [← ex20]
      obtain ⟨i21, ei21, h⟩ := zoL_s h
      rw [← ei21]
      obtain ⟨le23, hs22, h⟩ := zoS_s h
      obtain ⟨hi24, h⟩ := zoI_s h
      refine zr_iast F zd_XPicture_wipe_42 (zW_a0 hs22) hi24 ?_
      obtain ⟨mm25, emm25, h⟩ := zoL_s h
      refine zr_norm (zW tA b sh mm25) _ (by rw [emm25]; exact zW_s0 hs22) rfl ?_
      refine zr_aload_n F zd_XPicture_wipe_43 rfl ?_
      obtain ⟨le27, hs26, h⟩ := zoS_s h
      obtain ⟨a28, ea28, h⟩ := zoB_s h
      refine zr_get F 5 2 zd_XPicture_wipe_44 (zW_o hs26 (by decide)) rfl (by decide) zw_433 rfl (by rfl) ?_
      refine zr_tor ea28 ?_
      refine zr_iload_n F zd_XPicture_wipe_47 rfl ?_
      refine zr_aload_n F zd_XPicture_wipe_48 rfl ?_
      obtain ⟨le30, hs29, h⟩ := zoS_s h
      refine zr_get F 5 4 zd_XPicture_wipe_49 (zW_o hs29 (by decide)) rfl (by decide) zw_437 rfl (by rfl) ?_
      refine zr_imul F zd_XPicture_wipe_52 ?_
      refine zr_pcn 53 rfl ?_
      refine zr_iload_n F zd_XPicture_wipe_53 rfl ?_
      refine zr_iadd F zd_XPicture_wipe_54 ?_
      refine zr_iconstv (v := 0) F zd_XPicture_wipe_55 (by decide) ?_
      obtain ⟨i31, ei31, h⟩ := zoL_s h
      rw [← ei31]
      obtain ⟨le33, hs32, h⟩ := zoS_s h
      obtain ⟨hi34, h⟩ := zoI_s h
      refine zr_iast F zd_XPicture_wipe_56 (zW_a0 hs32) hi34 ?_
      obtain ⟨mm35, emm35, h⟩ := zoL_s h
      refine zr_norm (zW tA b sh mm35) _ (by rw [emm35]; exact zW_s0 hs32) rfl ?_
      refine zr_iinc (v := (v2 + 1)) F zd_XPicture_wipe_57 rfl rfl (by decide) ?_
      refine zr_goto F 18 zd_XPicture_wipe_60 (by decide) ?_
      refine zr_loc (L' := [(0, .ref (b + v0)), (1, .int v1), (2, .int (v2 + 1))]) ⟨rfl, rfl, rfl, trivial⟩ ?_
      exact ih _ _ _ _ _ h hx0
def L_XPicture_wipe_5 (sh : zSh) (fuel : Nat) (v0 : Nat) (v1 : Int32) (mm : zMem) : Option (Nat × Int32 × zMem) := match fuel with
  | 0 => none
  | fu + 1 => zoS (sh v0) 5 (fun le5 => (if (mm.1 v0 17) < v1 then some (v0, v1, mm) else zoS (sh v0) 5 (fun le8 => zoL (mm.1 v0 14) (fun x9 => Option.bind (L_XPicture_wipe_18 sh zfuel v0 v1 x9 mm) (fun q36 => L_XPicture_wipe_5 sh fu (q36.1) (q36.2.1 + 1) (q36.2.2.2))))))
set_option maxHeartbeats 4000000 in
set_option maxRecDepth 100000 in
theorem lp_XPicture_wipe_5 {p : Program} {l : Launch} {e : Env} {s : State} {m : MethodId} {args : Array Value} {below : List Frame} {meth : Method} {c : Code} {D : va_G} {tA : Nat → ClassId} {b n : Nat} {post : Option Value → zV → Nat → Prop} {sh : zSh} (F : zF p s m args meth c zb_XPicture_wipe 3 "OrreryBox$Picture" D tA b) : ∀ (fuel : Nat) (v0 : Nat) (v1 : Int32) (mm : zMem) (r : Nat × Int32 × zMem), L_XPicture_wipe_5 sh fuel v0 v1 mm = some r → (Z p l e { frames := 0, cells := 0, slots := 0, locals := 0 } s m args below meth c D b 3 (MQ below (zQ D b post) args s 0 0 (fun q => b ≤ q)) (zW tA b sh r.2.2) n 0 0 69 [(0, .ref (b + (r.1))), (1, .int (r.2.1))] []) → Z p l e { frames := 0, cells := 0, slots := 0, locals := 0 } s m args below meth c D b 3 (MQ below (zQ D b post) args s 0 0 (fun q => b ≤ q)) (zW tA b sh mm) n 0 0 5 [(0, .ref (b + v0)), (1, .int v1)] [] := by
  intro fuel
  induction fuel with
  | zero =>
    intro v0 v1 mm r h
    cases h
  | succ fu ih =>
    intro v0 v1 mm r h hx0
    rw [L_XPicture_wipe_5] at h
    refine zr_iload_n F zd_XPicture_wipe_5 rfl ?_
    refine zr_aload_n F zd_XPicture_wipe_6 rfl ?_
    obtain ⟨le5, hs4, h⟩ := zoS_s h
    refine zr_get F 5 17 zd_XPicture_wipe_7 (zW_o hs4 (by decide)) rfl (by decide) zw_450 rfl (by rfl) ?_
    refine zr_icmp_gt F 69 zd_XPicture_wipe_10 (by decide) (fun hb6 => ?_) (fun hb6 => ?_)
    ·
      rw [if_pos hb6] at h
      obtain rfl := Option.some.inj h
      refine zr_loc (L' := [(0, .ref (b + v0)), (1, .int v1)]) ⟨rfl, rfl, trivial⟩ ?_
      exact hx0 
    ·
      rw [if_neg hb6] at h
      refine zr_pcn 13 rfl ?_
      refine zr_aload_n F zd_XPicture_wipe_13 rfl ?_
      obtain ⟨le8, hs7, h⟩ := zoS_s h
      refine zr_get F 5 14 zd_XPicture_wipe_14 (zW_o hs7 (by decide)) rfl (by decide) zw_447 rfl (by rfl) ?_
      obtain ⟨x9, ex9, h⟩ := zoL_s h
      rw [← ex9]
      refine zr_istore_n F zd_XPicture_wipe_17 (by decide) ?_
      obtain ⟨q36, eq36, h⟩ := zoB_s h
      refine zr_loc (L' := [(0, .ref (b + v0)), (1, .int v1), (2, .int x9)]) ⟨rfl, rfl, rfl, trivial⟩ ?_
      refine lp_XPicture_wipe_18 F _ _ _ _ _ _ eq36 ?_
      ·
        refine zr_iinc (v := (q36.2.1 + 1)) F zd_XPicture_wipe_63 rfl rfl (by decide) ?_
        refine zr_goto F 5 zd_XPicture_wipe_66 (by decide) ?_
        refine zr_loc (L' := [(0, .ref (b + (q36.1))), (1, .int (q36.2.1 + 1))]) ⟨rfl, rfl, trivial⟩ ?_
        exact ih _ _ _ _ h hx0
def F_XPicture_wipe (sh : zSh) (mm : zMem) (o : Nat) : Option zMem := zoS (sh o) 5 (fun le2 => zoL (mm.1 o 15) (fun x3 => Option.bind (L_XPicture_wipe_5 sh zfuel o x3 mm) (fun q37 => some (q37.2.2))))
set_option maxHeartbeats 4000000 in
set_option maxRecDepth 100000 in
theorem k_XPicture_wipe (l : Launch) (D : va_G) (tA : Nat → ClassId) (b : Nat) (sh : zSh) (n : Nat) {mm : zMem} {o : Nat} {r : zMem} (h : F_XPicture_wipe sh mm o = some r) : zM l D tA b zy_XPicture_wipe zb_XPicture_wipe 3 none 0 0 0 0 [.ref (b + o)] (zW tA b sh mm) n (zE none (zW tA b sh r) n) := by
  unfold F_XPicture_wipe at h
  refine zM_of (own := "OrreryBox$Picture") (plainFor_of_name (by decide)) rfl (Nat.le_of_ble_eq_true rfl) (fun p e s m below meth c F hr hin hH => ?_)
  refine zr_aload_n F zd_XPicture_wipe_0 rfl ?_
  obtain ⟨le2, hs1, h⟩ := zoS_s h
  refine zr_get F 5 15 zd_XPicture_wipe_1 (zW_o hs1 (by decide)) rfl (by decide) zw_448 rfl (by rfl) ?_
  obtain ⟨x3, ex3, h⟩ := zoL_s h
  rw [← ex3]
  refine zr_istore_n F zd_XPicture_wipe_4 (by decide) ?_
  obtain ⟨q37, eq37, h⟩ := zoB_s h
  refine zr_loc (L' := [(0, .ref (b + o)), (1, .int x3)]) ⟨rfl, rfl, trivial⟩ ?_
  refine lp_XPicture_wipe_5 F _ _ _ _ _ eq37 ?_
  ·
    refine zr_pcn 69 rfl ?_
    obtain rfl := Option.some.inj h
    exact zr_vret F hr zd_XPicture_wipe_69 (Nat.le_of_ble_eq_true rfl) (Nat.le_of_ble_eq_true rfl) ⟨rfl, rfl, rfl⟩
abbrev zb_XPiece_keepAt : ByteArray := prog_7_method_3_code
def zy_XPiece_keepAt : MethodName := ⟨"OrreryBox$Piece", "keepAt", "([II)V"⟩
theorem zc_XPiece_keepAt : Cond.code zy_XPiece_keepAt zb_XPiece_keepAt 3 none ∈ gw := gw_t 767 (by decide +kernel) rfl
theorem zq_XPiece_keepAt : zy_XPiece_keepAt.cls ≠ "java/lang/invoke/MethodHandle" ∧ zy_XPiece_keepAt.cls ≠ "java/lang/invoke/VarHandle" ∧ (parseMethodDescriptor zy_XPiece_keepAt.desc).map (fun d => d.parameters.length) = some 2 := by decide +kernel
theorem zd_XPiece_keepAt_0 : decode zb_XPiece_keepAt 0 = .ok (.aload_n 0, 1) := by decide +kernel
theorem zd_XPiece_keepAt_1 : decode zb_XPiece_keepAt 1 = .ok (.getfield 9, 3) := by decide +kernel
theorem zd_XPiece_keepAt_4 : decode zb_XPiece_keepAt 4 = .ok (.iconst 0, 1) := by decide +kernel
theorem zd_XPiece_keepAt_5 : decode zb_XPiece_keepAt 5 = .ok (.aload_n 1, 1) := by decide +kernel
theorem zd_XPiece_keepAt_6 : decode zb_XPiece_keepAt 6 = .ok (.iload_n 2, 1) := by decide +kernel
theorem zd_XPiece_keepAt_7 : decode zb_XPiece_keepAt 7 = .ok (.bipush 18, 2) := by decide +kernel
theorem zd_XPiece_keepAt_9 : decode zb_XPiece_keepAt 9 = .ok (.invokestatic 15, 3) := by decide +kernel
theorem zd_XPiece_keepAt_12 : decode zb_XPiece_keepAt 12 = .ok (.return_, 1) := by decide +kernel
theorem zw_754 : (Jvm.Cond.methodLink "OrreryBox$Piece" (15 : Nat) ({ cls := "java/lang/System", name := "arraycopy", desc := "(Ljava/lang/Object;ILjava/lang/Object;II)V" } : Jvm.MethodName)) ∈ gw := gw_t 754 (by decide +kernel) rfl
theorem zw_724 : (Jvm.Cond.native ({ cls := "java/lang/System", name := "arraycopy", desc := "(Ljava/lang/Object;ILjava/lang/Object;II)V" } : Jvm.MethodName)) ∈ gw := gw_t 724 (by decide +kernel) rfl
theorem zw_723 : (Jvm.Cond.static ({ cls := "java/lang/System", name := "arraycopy", desc := "(Ljava/lang/Object;ILjava/lang/Object;II)V" } : Jvm.MethodName)) ∈ gw := gw_t 723 (by decide +kernel) rfl
theorem zw_26 : (Jvm.Cond.initialized "java/lang/System") ∈ gw := gw_t 26 (by decide +kernel) rfl
def F_XPiece_keepAt (sh : zSh) (mm : zMem) (o : Nat) (x0_ : Nat) (x1_ : Int32) : Option zMem := zoS (sh o) 6 (fun le2 => Option.bind (mm.2.2 o 1) (fun a3 => zoS (sh a3) 100 (fun le4 => zoS (sh x0_) 100 (fun le6 => if ¬ (0 : Int32) < 0 ∧ ¬ (x1_ : Int32) < 0 ∧ ¬ (18 : Int32) < 0 ∧ (0 : Int32).toNatClampNeg + (18 : Int32).toNatClampNeg ≤ le4 ∧ (x1_ : Int32).toNatClampNeg + (18 : Int32).toNatClampNeg ≤ le6 then zoL (mC mm a3 x0_ (0 : Int32).toNatClampNeg (x1_ : Int32).toNatClampNeg (18 : Int32).toNatClampNeg) (fun mm9 => some mm9) else none))))
set_option maxHeartbeats 4000000 in
set_option maxRecDepth 100000 in
theorem k_XPiece_keepAt (l : Launch) (D : va_G) (tA : Nat → ClassId) (b : Nat) (sh : zSh) (n : Nat) {mm : zMem} {o : Nat} {x0_ : Nat} {x1_ : Int32} {r : zMem} (h : F_XPiece_keepAt sh mm o x0_ x1_ = some r) : zM l D tA b zy_XPiece_keepAt zb_XPiece_keepAt 3 none 1 60 0 0 [.ref (b + o), .ref (b + x0_), .int x1_] (zW tA b sh mm) n (zE none (zW tA b sh r) n) := by
  unfold F_XPiece_keepAt at h
  refine zM_of (own := "OrreryBox$Piece") (plainFor_of_name (by decide)) rfl (Nat.le_of_ble_eq_true rfl) (fun p e s m below meth c F hr hin hH => ?_)
  refine zr_aload_n F zd_XPiece_keepAt_0 rfl ?_
  obtain ⟨le2, hs1, h⟩ := zoS_s h
  obtain ⟨a3, ea3, h⟩ := zoB_s h
  refine zr_get F 6 1 zd_XPiece_keepAt_1 (zW_o hs1 (by decide)) rfl (by decide) zw_351 rfl (by rfl) ?_
  refine zr_tor ea3 ?_
  refine zr_iconstv (v := 0) F zd_XPiece_keepAt_4 (by decide) ?_
  refine zr_aload_n F zd_XPiece_keepAt_5 rfl ?_
  refine zr_iload_n F zd_XPiece_keepAt_6 rfl ?_
  refine zr_bipushv (v := 18) F zd_XPiece_keepAt_7 (by decide) ?_
  obtain ⟨le4, hs5, h⟩ := zoS_s h
  obtain ⟨le6, hs7, h⟩ := zoS_s h
  obtain ⟨hc8, h⟩ := zoT_s h
  obtain ⟨mm9, emm9, h⟩ := zoL_s h
  refine zr_copy F zd_XPiece_keepAt_9 zw_754 zw_724 zw_723 zw_26 (zW_a0 hs5) (zW_a0 hs7) hc8.1 hc8.2.1 hc8.2.2.1 hc8.2.2.2.1 hc8.2.2.2.2 (Nat.le_of_ble_eq_true rfl) (Nat.le_of_ble_eq_true rfl) ?_
  refine zr_norm (zW tA b sh mm9) _ (by rw [emm9]; exact zW_c hs7) rfl ?_
  refine zr_pcn 12 rfl ?_
  obtain rfl := Option.some.inj h
  exact zr_vret F hr zd_XPiece_keepAt_12 (Nat.le_of_ble_eq_true rfl) (Nat.le_of_ble_eq_true rfl) ⟨rfl, rfl, rfl⟩
abbrev zb_XPiece_cross : ByteArray := prog_7_method_5_code
def zy_XPiece_cross : MethodName := ⟨"OrreryBox$Piece", "cross", "(II)J"⟩
theorem zc_XPiece_cross : Cond.code zy_XPiece_cross zb_XPiece_cross 5 (some .long) ∈ gw := gw_t 758 (by decide +kernel) rfl
theorem zq_XPiece_cross : zy_XPiece_cross.cls ≠ "java/lang/invoke/MethodHandle" ∧ zy_XPiece_cross.cls ≠ "java/lang/invoke/VarHandle" ∧ (parseMethodDescriptor zy_XPiece_cross.desc).map (fun d => d.parameters.length) = some 2 := by decide +kernel
theorem zd_XPiece_cross_0 : decode zb_XPiece_cross 0 = .ok (.aload_n 0, 1) := by decide +kernel
theorem zd_XPiece_cross_1 : decode zb_XPiece_cross 1 = .ok (.getfield 9, 3) := by decide +kernel
theorem zd_XPiece_cross_4 : decode zb_XPiece_cross 4 = .ok (.bipush 6, 2) := by decide +kernel
theorem zd_XPiece_cross_6 : decode zb_XPiece_cross 6 = .ok (.iload_n 1, 1) := by decide +kernel
theorem zd_XPiece_cross_7 : decode zb_XPiece_cross 7 = .ok (.iadd, 1) := by decide +kernel
theorem zd_XPiece_cross_8 : decode zb_XPiece_cross 8 = .ok (.iaload, 1) := by decide +kernel
theorem zd_XPiece_cross_9 : decode zb_XPiece_cross 9 = .ok (.aload_n 0, 1) := by decide +kernel
theorem zd_XPiece_cross_10 : decode zb_XPiece_cross 10 = .ok (.getfield 9, 3) := by decide +kernel
theorem zd_XPiece_cross_13 : decode zb_XPiece_cross 13 = .ok (.iload_n 1, 1) := by decide +kernel
theorem zd_XPiece_cross_14 : decode zb_XPiece_cross 14 = .ok (.iaload, 1) := by decide +kernel
theorem zd_XPiece_cross_15 : decode zb_XPiece_cross 15 = .ok (.isub, 1) := by decide +kernel
theorem zd_XPiece_cross_16 : decode zb_XPiece_cross 16 = .ok (.i2l, 1) := by decide +kernel
theorem zd_XPiece_cross_17 : decode zb_XPiece_cross 17 = .ok (.aload_n 0, 1) := by decide +kernel
theorem zd_XPiece_cross_18 : decode zb_XPiece_cross 18 = .ok (.getfield 9, 3) := by decide +kernel
theorem zd_XPiece_cross_21 : decode zb_XPiece_cross 21 = .ok (.bipush 12, 2) := by decide +kernel
theorem zd_XPiece_cross_23 : decode zb_XPiece_cross 23 = .ok (.iload_n 2, 1) := by decide +kernel
theorem zd_XPiece_cross_24 : decode zb_XPiece_cross 24 = .ok (.iadd, 1) := by decide +kernel
theorem zd_XPiece_cross_25 : decode zb_XPiece_cross 25 = .ok (.iaload, 1) := by decide +kernel
theorem zd_XPiece_cross_26 : decode zb_XPiece_cross 26 = .ok (.aload_n 0, 1) := by decide +kernel
theorem zd_XPiece_cross_27 : decode zb_XPiece_cross 27 = .ok (.getfield 9, 3) := by decide +kernel
theorem zd_XPiece_cross_30 : decode zb_XPiece_cross 30 = .ok (.iload_n 2, 1) := by decide +kernel
theorem zd_XPiece_cross_31 : decode zb_XPiece_cross 31 = .ok (.iaload, 1) := by decide +kernel
theorem zd_XPiece_cross_32 : decode zb_XPiece_cross 32 = .ok (.isub, 1) := by decide +kernel
theorem zd_XPiece_cross_33 : decode zb_XPiece_cross 33 = .ok (.i2l, 1) := by decide +kernel
theorem zd_XPiece_cross_34 : decode zb_XPiece_cross 34 = .ok (.lmul, 1) := by decide +kernel
theorem zd_XPiece_cross_35 : decode zb_XPiece_cross 35 = .ok (.lstore_n 3, 1) := by decide +kernel
theorem zd_XPiece_cross_36 : decode zb_XPiece_cross 36 = .ok (.lload_n 3, 1) := by decide +kernel
theorem zd_XPiece_cross_37 : decode zb_XPiece_cross 37 = .ok (.aload_n 0, 1) := by decide +kernel
theorem zd_XPiece_cross_38 : decode zb_XPiece_cross 38 = .ok (.getfield 9, 3) := by decide +kernel
theorem zd_XPiece_cross_41 : decode zb_XPiece_cross 41 = .ok (.bipush 12, 2) := by decide +kernel
theorem zd_XPiece_cross_43 : decode zb_XPiece_cross 43 = .ok (.iload_n 1, 1) := by decide +kernel
theorem zd_XPiece_cross_44 : decode zb_XPiece_cross 44 = .ok (.iadd, 1) := by decide +kernel
theorem zd_XPiece_cross_45 : decode zb_XPiece_cross 45 = .ok (.iaload, 1) := by decide +kernel
theorem zd_XPiece_cross_46 : decode zb_XPiece_cross 46 = .ok (.aload_n 0, 1) := by decide +kernel
theorem zd_XPiece_cross_47 : decode zb_XPiece_cross 47 = .ok (.getfield 9, 3) := by decide +kernel
theorem zd_XPiece_cross_50 : decode zb_XPiece_cross 50 = .ok (.iload_n 1, 1) := by decide +kernel
theorem zd_XPiece_cross_51 : decode zb_XPiece_cross 51 = .ok (.iaload, 1) := by decide +kernel
theorem zd_XPiece_cross_52 : decode zb_XPiece_cross 52 = .ok (.isub, 1) := by decide +kernel
theorem zd_XPiece_cross_53 : decode zb_XPiece_cross 53 = .ok (.i2l, 1) := by decide +kernel
theorem zd_XPiece_cross_54 : decode zb_XPiece_cross 54 = .ok (.aload_n 0, 1) := by decide +kernel
theorem zd_XPiece_cross_55 : decode zb_XPiece_cross 55 = .ok (.getfield 9, 3) := by decide +kernel
theorem zd_XPiece_cross_58 : decode zb_XPiece_cross 58 = .ok (.bipush 6, 2) := by decide +kernel
theorem zd_XPiece_cross_60 : decode zb_XPiece_cross 60 = .ok (.iload_n 2, 1) := by decide +kernel
theorem zd_XPiece_cross_61 : decode zb_XPiece_cross 61 = .ok (.iadd, 1) := by decide +kernel
theorem zd_XPiece_cross_62 : decode zb_XPiece_cross 62 = .ok (.iaload, 1) := by decide +kernel
theorem zd_XPiece_cross_63 : decode zb_XPiece_cross 63 = .ok (.aload_n 0, 1) := by decide +kernel
theorem zd_XPiece_cross_64 : decode zb_XPiece_cross 64 = .ok (.getfield 9, 3) := by decide +kernel
theorem zd_XPiece_cross_67 : decode zb_XPiece_cross 67 = .ok (.iload_n 2, 1) := by decide +kernel
theorem zd_XPiece_cross_68 : decode zb_XPiece_cross 68 = .ok (.iaload, 1) := by decide +kernel
theorem zd_XPiece_cross_69 : decode zb_XPiece_cross 69 = .ok (.isub, 1) := by decide +kernel
theorem zd_XPiece_cross_70 : decode zb_XPiece_cross 70 = .ok (.i2l, 1) := by decide +kernel
theorem zd_XPiece_cross_71 : decode zb_XPiece_cross 71 = .ok (.lmul, 1) := by decide +kernel
theorem zd_XPiece_cross_72 : decode zb_XPiece_cross 72 = .ok (.lsub, 1) := by decide +kernel
theorem zd_XPiece_cross_73 : decode zb_XPiece_cross 73 = .ok (.lreturn, 1) := by decide +kernel
def F_XPiece_cross (sh : zSh) (mm : zMem) (o : Nat) (x0_ : Int32) (x1_ : Int32) : Option (Int64 × zMem) := zoS (sh o) 6 (fun le2 => Option.bind (mm.2.2 o 1) (fun a3 => zoL (6 + x0_) (fun i4 => zoS (sh a3) 100 (fun le6 => if (i4 : Int32) < 0 ∨ le6 ≤ (i4 : Int32).toNatClampNeg then none else zoS (sh o) 6 (fun le9 => Option.bind (mm.2.2 o 1) (fun a10 => zoS (sh a10) 100 (fun le12 => if (x0_ : Int32) < 0 ∨ le12 ≤ (x0_ : Int32).toNatClampNeg then none else zoS (sh o) 6 (fun le15 => Option.bind (mm.2.2 o 1) (fun a16 => zoL (12 + x1_) (fun i17 => zoS (sh a16) 100 (fun le19 => if (i17 : Int32) < 0 ∨ le19 ≤ (i17 : Int32).toNatClampNeg then none else zoS (sh o) 6 (fun le22 => Option.bind (mm.2.2 o 1) (fun a23 => zoS (sh a23) 100 (fun le25 => if (x1_ : Int32) < 0 ∨ le25 ≤ (x1_ : Int32).toNatClampNeg then none else zoL (((((mm.1 a3 (i4 : Int32).toNatClampNeg) - (mm.1 a10 (x0_ : Int32).toNatClampNeg)) : Int32).toInt64) * ((((mm.1 a16 (i17 : Int32).toNatClampNeg) - (mm.1 a23 (x1_ : Int32).toNatClampNeg)) : Int32).toInt64)) (fun x27 => zoS (sh o) 6 (fun le29 => Option.bind (mm.2.2 o 1) (fun a30 => zoL (12 + x0_) (fun i31 => zoS (sh a30) 100 (fun le33 => if (i31 : Int32) < 0 ∨ le33 ≤ (i31 : Int32).toNatClampNeg then none else zoS (sh o) 6 (fun le36 => Option.bind (mm.2.2 o 1) (fun a37 => zoS (sh a37) 100 (fun le39 => if (x0_ : Int32) < 0 ∨ le39 ≤ (x0_ : Int32).toNatClampNeg then none else zoS (sh o) 6 (fun le42 => Option.bind (mm.2.2 o 1) (fun a43 => zoL (6 + x1_) (fun i44 => zoS (sh a43) 100 (fun le46 => if (i44 : Int32) < 0 ∨ le46 ≤ (i44 : Int32).toNatClampNeg then none else zoS (sh o) 6 (fun le49 => Option.bind (mm.2.2 o 1) (fun a50 => zoS (sh a50) 100 (fun le52 => if (x1_ : Int32) < 0 ∨ le52 ≤ (x1_ : Int32).toNatClampNeg then none else some ((x27 - (((((mm.1 a30 (i31 : Int32).toNatClampNeg) - (mm.1 a37 (x0_ : Int32).toNatClampNeg)) : Int32).toInt64) * ((((mm.1 a43 (i44 : Int32).toNatClampNeg) - (mm.1 a50 (x1_ : Int32).toNatClampNeg)) : Int32).toInt64))), mm))))))))))))))))))))))))))))))
set_option maxHeartbeats 4000000 in
set_option maxRecDepth 100000 in
theorem k_XPiece_cross (l : Launch) (D : va_G) (tA : Nat → ClassId) (b : Nat) (sh : zSh) (n : Nat) {mm : zMem} {o : Nat} {x0_ : Int32} {x1_ : Int32} {r : (Int64 × zMem)} (h : F_XPiece_cross sh mm o x0_ x1_ = some r) : zM l D tA b zy_XPiece_cross zb_XPiece_cross 5 (some .long) 0 0 0 0 [.ref (b + o), .int x0_, .int x1_] (zW tA b sh mm) n (zE (some (.long (r.1))) (zW tA b sh r.2) n) := by
  unfold F_XPiece_cross at h
  refine zM_of (own := "OrreryBox$Piece") (plainFor_of_name (by decide)) rfl (Nat.le_of_ble_eq_true rfl) (fun p e s m below meth c F hr hin hH => ?_)
  refine zr_aload_n F zd_XPiece_cross_0 rfl ?_
  obtain ⟨le2, hs1, h⟩ := zoS_s h
  obtain ⟨a3, ea3, h⟩ := zoB_s h
  refine zr_get F 6 1 zd_XPiece_cross_1 (zW_o hs1 (by decide)) rfl (by decide) zw_351 rfl (by rfl) ?_
  refine zr_tor ea3 ?_
  refine zr_bipushv (v := 6) F zd_XPiece_cross_4 (by decide) ?_
  refine zr_iload_n F zd_XPiece_cross_6 rfl ?_
  refine zr_iadd F zd_XPiece_cross_7 ?_
  obtain ⟨i4, ei4, h⟩ := zoL_s h
  rw [← ei4]
  obtain ⟨le6, hs5, h⟩ := zoS_s h
  obtain ⟨hi7, h⟩ := zoI_s h
  refine zr_iald F zd_XPiece_cross_8 (zW_a0 hs5) hi7 ?_
  refine zr_aload_n F zd_XPiece_cross_9 rfl ?_
  refine zr_pcn 10 rfl ?_
  obtain ⟨le9, hs8, h⟩ := zoS_s h
  obtain ⟨a10, ea10, h⟩ := zoB_s h
  refine zr_get F 6 1 zd_XPiece_cross_10 (zW_o hs8 (by decide)) rfl (by decide) zw_351 rfl (by rfl) ?_
  refine zr_tor ea10 ?_
  refine zr_iload_n F zd_XPiece_cross_13 rfl ?_
  obtain ⟨le12, hs11, h⟩ := zoS_s h
  obtain ⟨hi13, h⟩ := zoI_s h
  refine zr_iald F zd_XPiece_cross_14 (zW_a0 hs11) hi13 ?_
  refine zr_isub F zd_XPiece_cross_15 ?_
  refine zr_i2l F zd_XPiece_cross_16 ?_
  refine zr_aload_n F zd_XPiece_cross_17 rfl ?_
  obtain ⟨le15, hs14, h⟩ := zoS_s h
  obtain ⟨a16, ea16, h⟩ := zoB_s h
  refine zr_get F 6 1 zd_XPiece_cross_18 (zW_o hs14 (by decide)) rfl (by decide) zw_351 rfl (by rfl) ?_
  refine zr_tor ea16 ?_
  refine zr_bipushv (v := 12) F zd_XPiece_cross_21 (by decide) ?_
  refine zr_pcn 23 rfl ?_
  refine zr_iload_n F zd_XPiece_cross_23 rfl ?_
  refine zr_iadd F zd_XPiece_cross_24 ?_
  obtain ⟨i17, ei17, h⟩ := zoL_s h
  rw [← ei17]
  obtain ⟨le19, hs18, h⟩ := zoS_s h
  obtain ⟨hi20, h⟩ := zoI_s h
  refine zr_iald F zd_XPiece_cross_25 (zW_a0 hs18) hi20 ?_
  refine zr_aload_n F zd_XPiece_cross_26 rfl ?_
  obtain ⟨le22, hs21, h⟩ := zoS_s h
  obtain ⟨a23, ea23, h⟩ := zoB_s h
  refine zr_get F 6 1 zd_XPiece_cross_27 (zW_o hs21 (by decide)) rfl (by decide) zw_351 rfl (by rfl) ?_
  refine zr_tor ea23 ?_
  refine zr_iload_n F zd_XPiece_cross_30 rfl ?_
  obtain ⟨le25, hs24, h⟩ := zoS_s h
  obtain ⟨hi26, h⟩ := zoI_s h
  refine zr_iald F zd_XPiece_cross_31 (zW_a0 hs24) hi26 ?_
  refine zr_isub F zd_XPiece_cross_32 ?_
  refine zr_pcn 33 rfl ?_
  refine zr_i2l F zd_XPiece_cross_33 ?_
  refine zr_lmul F zd_XPiece_cross_34 ?_
  obtain ⟨x27, ex27, h⟩ := zoL_s h
  rw [← ex27]
  refine zr_lstore_n F zd_XPiece_cross_35 (by decide) ?_
  refine zr_lload_n F zd_XPiece_cross_36 rfl ?_
  refine zr_aload_n F zd_XPiece_cross_37 rfl ?_
  obtain ⟨le29, hs28, h⟩ := zoS_s h
  obtain ⟨a30, ea30, h⟩ := zoB_s h
  refine zr_get F 6 1 zd_XPiece_cross_38 (zW_o hs28 (by decide)) rfl (by decide) zw_351 rfl (by rfl) ?_
  refine zr_tor ea30 ?_
  refine zr_bipushv (v := 12) F zd_XPiece_cross_41 (by decide) ?_
  refine zr_iload_n F zd_XPiece_cross_43 rfl ?_
  refine zr_pcn 44 rfl ?_
  refine zr_iadd F zd_XPiece_cross_44 ?_
  obtain ⟨i31, ei31, h⟩ := zoL_s h
  rw [← ei31]
  obtain ⟨le33, hs32, h⟩ := zoS_s h
  obtain ⟨hi34, h⟩ := zoI_s h
  refine zr_iald F zd_XPiece_cross_45 (zW_a0 hs32) hi34 ?_
  refine zr_aload_n F zd_XPiece_cross_46 rfl ?_
  obtain ⟨le36, hs35, h⟩ := zoS_s h
  obtain ⟨a37, ea37, h⟩ := zoB_s h
  refine zr_get F 6 1 zd_XPiece_cross_47 (zW_o hs35 (by decide)) rfl (by decide) zw_351 rfl (by rfl) ?_
  refine zr_tor ea37 ?_
  refine zr_iload_n F zd_XPiece_cross_50 rfl ?_
  obtain ⟨le39, hs38, h⟩ := zoS_s h
  obtain ⟨hi40, h⟩ := zoI_s h
  refine zr_iald F zd_XPiece_cross_51 (zW_a0 hs38) hi40 ?_
  refine zr_isub F zd_XPiece_cross_52 ?_
  refine zr_i2l F zd_XPiece_cross_53 ?_
  refine zr_pcn 54 rfl ?_
  refine zr_aload_n F zd_XPiece_cross_54 rfl ?_
  obtain ⟨le42, hs41, h⟩ := zoS_s h
  obtain ⟨a43, ea43, h⟩ := zoB_s h
  refine zr_get F 6 1 zd_XPiece_cross_55 (zW_o hs41 (by decide)) rfl (by decide) zw_351 rfl (by rfl) ?_
  refine zr_tor ea43 ?_
  refine zr_bipushv (v := 6) F zd_XPiece_cross_58 (by decide) ?_
  refine zr_iload_n F zd_XPiece_cross_60 rfl ?_
  refine zr_iadd F zd_XPiece_cross_61 ?_
  obtain ⟨i44, ei44, h⟩ := zoL_s h
  rw [← ei44]
  obtain ⟨le46, hs45, h⟩ := zoS_s h
  obtain ⟨hi47, h⟩ := zoI_s h
  refine zr_iald F zd_XPiece_cross_62 (zW_a0 hs45) hi47 ?_
  refine zr_aload_n F zd_XPiece_cross_63 rfl ?_
  obtain ⟨le49, hs48, h⟩ := zoS_s h
  obtain ⟨a50, ea50, h⟩ := zoB_s h
  refine zr_get F 6 1 zd_XPiece_cross_64 (zW_o hs48 (by decide)) rfl (by decide) zw_351 rfl (by rfl) ?_
  refine zr_tor ea50 ?_
  refine zr_pcn 67 rfl ?_
  refine zr_iload_n F zd_XPiece_cross_67 rfl ?_
  obtain ⟨le52, hs51, h⟩ := zoS_s h
  obtain ⟨hi53, h⟩ := zoI_s h
  refine zr_iald F zd_XPiece_cross_68 (zW_a0 hs51) hi53 ?_
  refine zr_isub F zd_XPiece_cross_69 ?_
  refine zr_i2l F zd_XPiece_cross_70 ?_
  refine zr_lmul F zd_XPiece_cross_71 ?_
  refine zr_lsub F zd_XPiece_cross_72 ?_
  obtain rfl := Option.some.inj h
  exact zr_lret F hr zd_XPiece_cross_73 (Nat.le_of_ble_eq_true rfl) (Nat.le_of_ble_eq_true rfl) ⟨rfl, rfl, rfl⟩
abbrev zb_XPiece_spread : ByteArray := prog_7_method_6_code
def zy_XPiece_spread : MethodName := ⟨"OrreryBox$Piece", "spread", "()J"⟩
theorem zc_XPiece_spread : Cond.code zy_XPiece_spread zb_XPiece_spread 1 (some .long) ∈ gw := gw_t 807 (by decide +kernel) rfl
theorem zq_XPiece_spread : zy_XPiece_spread.cls ≠ "java/lang/invoke/MethodHandle" ∧ zy_XPiece_spread.cls ≠ "java/lang/invoke/VarHandle" ∧ (parseMethodDescriptor zy_XPiece_spread.desc).map (fun d => d.parameters.length) = some 0 := by decide +kernel
theorem zd_XPiece_spread_0 : decode zb_XPiece_spread 0 = .ok (.aload_n 0, 1) := by decide +kernel
theorem zd_XPiece_spread_1 : decode zb_XPiece_spread 1 = .ok (.iconst 3, 1) := by decide +kernel
theorem zd_XPiece_spread_2 : decode zb_XPiece_spread 2 = .ok (.iconst 4, 1) := by decide +kernel
theorem zd_XPiece_spread_3 : decode zb_XPiece_spread 3 = .ok (.invokevirtual 21, 3) := by decide +kernel
theorem zd_XPiece_spread_6 : decode zb_XPiece_spread 6 = .ok (.invokestatic 29, 3) := by decide +kernel
theorem zd_XPiece_spread_9 : decode zb_XPiece_spread 9 = .ok (.lreturn, 1) := by decide +kernel
theorem zw_755 : (Jvm.Cond.methodLink "OrreryBox$Piece" (21 : Nat) ({ cls := "OrreryBox$Piece", name := "cross", desc := "(II)J" } : Jvm.MethodName)) ∈ gw := gw_t 755 (by decide +kernel) rfl
theorem zw_757 : (Jvm.Cond.instanceMethod ({ cls := "OrreryBox$Piece", name := "cross", desc := "(II)J" } : Jvm.MethodName)) ∈ gw := gw_t 757 (by decide +kernel) rfl
theorem zv_16 : (Jvm.Cond.selects "OrreryBox$Piece" (⟨"OrreryBox$Piece", "cross", "(II)J"⟩ : MethodName) ⟨"OrreryBox$Piece", "cross", "(II)J"⟩) ∈ gw := gw_s 16 (by decide +kernel) rfl
theorem zs_XPiece_21 : zwV "OrreryBox$Piece" 21 "OrreryBox$Piece" zy_XPiece_cross zb_XPiece_cross 5 (some .long) := ⟨zw_755, zw_757, zv_16, zw_11, zc_XPiece_cross⟩
theorem zw_808 : (Jvm.Cond.methodLink "OrreryBox$Piece" (29 : Nat) ({ cls := "java/lang/Math", name := "abs", desc := "(J)J" } : Jvm.MethodName)) ∈ gw := gw_t 808 (by decide +kernel) rfl
theorem zw_809 : (Jvm.Cond.static ({ cls := "java/lang/Math", name := "abs", desc := "(J)J" } : Jvm.MethodName)) ∈ gw := gw_t 809 (by decide +kernel) rfl
theorem zs_XPiece_29 : zwS "OrreryBox$Piece" 29 zy_JMath_abs2 zb_JMath_abs2 2 (some .long) := ⟨zw_808, zw_809, zw_4, zc_JMath_abs2⟩
def F_XPiece_spread (sh : zSh) (mm : zMem) (o : Nat) : Option (Int64 × zMem) := zoS (sh o) 6 (fun le2 => Option.bind (F_XPiece_cross sh mm o 3 4) (fun p3 => Option.bind (F_JMath_abs2 sh (p3.2) (p3.1)) (fun p4 => some (p4.1, p4.2))))
set_option maxHeartbeats 4000000 in
set_option maxRecDepth 100000 in
theorem k_XPiece_spread (l : Launch) (D : va_G) (tA : Nat → ClassId) (b : Nat) (sh : zSh) (n : Nat) {mm : zMem} {o : Nat} {r : (Int64 × zMem)} (h : F_XPiece_spread sh mm o = some r) : zM l D tA b zy_XPiece_spread zb_XPiece_spread 1 (some .long) 1 24 0 0 [.ref (b + o)] (zW tA b sh mm) n (zE (some (.long (r.1))) (zW tA b sh r.2) n) := by
  unfold F_XPiece_spread at h
  refine zM_of (own := "OrreryBox$Piece") (plainFor_of_name (by decide)) rfl (Nat.le_of_ble_eq_true rfl) (fun p e s m below meth c F hr hin hH => ?_)
  refine zr_aload_n F zd_XPiece_spread_0 rfl ?_
  refine zr_iconstv (v := 3) F zd_XPiece_spread_1 (by decide) ?_
  refine zr_iconstv (v := 4) F zd_XPiece_spread_2 (by decide) ?_
  obtain ⟨le2, hs1, h⟩ := zoS_s h
  obtain ⟨p3, ep3, h⟩ := zoB_s h
  refine zr_callV1 F (k_XPiece_cross l D tA b sh _ ep3) zd_XPiece_spread_3 (zW_o hs1 (by decide)) rfl zs_XPiece_21 rfl zq_XPiece_cross rfl rfl ⟨(Nat.le_of_ble_eq_true rfl), (Nat.le_of_ble_eq_true rfl)⟩ (Nat.le_of_ble_eq_true rfl) ⟨(Nat.le_of_ble_eq_true rfl), (Nat.le_of_ble_eq_true rfl)⟩ ?_
  obtain ⟨p4, ep4, h⟩ := zoB_s h
  refine zr_callS1 F (k_JMath_abs2 l D tA b sh _ ep4) zd_XPiece_spread_6 zs_XPiece_29 zq_JMath_abs2 rfl rfl ⟨(Nat.le_of_ble_eq_true rfl), (Nat.le_of_ble_eq_true rfl)⟩ (Nat.le_of_ble_eq_true rfl) ⟨(Nat.le_of_ble_eq_true rfl), (Nat.le_of_ble_eq_true rfl)⟩ ?_
  obtain rfl := Option.some.inj h
  exact zr_lret F hr zd_XPiece_spread_9 (Nat.le_of_ble_eq_true rfl) (Nat.le_of_ble_eq_true rfl) ⟨rfl, rfl, rfl⟩
abbrev zb_XPiece_firstPixel : ByteArray := prog_7_method_7_code
def zy_XPiece_firstPixel : MethodName := ⟨"OrreryBox$Piece", "firstPixel", "(I)I"⟩
theorem zc_XPiece_firstPixel : Cond.code zy_XPiece_firstPixel zb_XPiece_firstPixel 3 (some .int) ∈ gw := gw_t 796 (by decide +kernel) rfl
theorem zq_XPiece_firstPixel : zy_XPiece_firstPixel.cls ≠ "java/lang/invoke/MethodHandle" ∧ zy_XPiece_firstPixel.cls ≠ "java/lang/invoke/VarHandle" ∧ (parseMethodDescriptor zy_XPiece_firstPixel.desc).map (fun d => d.parameters.length) = some 1 := by decide +kernel
theorem zd_XPiece_firstPixel_0 : decode zb_XPiece_firstPixel 0 = .ok (.aload_n 0, 1) := by decide +kernel
theorem zd_XPiece_firstPixel_1 : decode zb_XPiece_firstPixel 1 = .ok (.getfield 9, 3) := by decide +kernel
theorem zd_XPiece_firstPixel_4 : decode zb_XPiece_firstPixel 4 = .ok (.iload_n 1, 1) := by decide +kernel
theorem zd_XPiece_firstPixel_5 : decode zb_XPiece_firstPixel 5 = .ok (.iaload, 1) := by decide +kernel
theorem zd_XPiece_firstPixel_6 : decode zb_XPiece_firstPixel 6 = .ok (.aload_n 0, 1) := by decide +kernel
theorem zd_XPiece_firstPixel_7 : decode zb_XPiece_firstPixel 7 = .ok (.getfield 9, 3) := by decide +kernel
theorem zd_XPiece_firstPixel_10 : decode zb_XPiece_firstPixel 10 = .ok (.bipush 6, 2) := by decide +kernel
theorem zd_XPiece_firstPixel_12 : decode zb_XPiece_firstPixel 12 = .ok (.iload_n 1, 1) := by decide +kernel
theorem zd_XPiece_firstPixel_13 : decode zb_XPiece_firstPixel 13 = .ok (.iadd, 1) := by decide +kernel
theorem zd_XPiece_firstPixel_14 : decode zb_XPiece_firstPixel 14 = .ok (.iaload, 1) := by decide +kernel
theorem zd_XPiece_firstPixel_15 : decode zb_XPiece_firstPixel 15 = .ok (.aload_n 0, 1) := by decide +kernel
theorem zd_XPiece_firstPixel_16 : decode zb_XPiece_firstPixel 16 = .ok (.getfield 9, 3) := by decide +kernel
theorem zd_XPiece_firstPixel_19 : decode zb_XPiece_firstPixel 19 = .ok (.bipush 12, 2) := by decide +kernel
theorem zd_XPiece_firstPixel_21 : decode zb_XPiece_firstPixel 21 = .ok (.iload_n 1, 1) := by decide +kernel
theorem zd_XPiece_firstPixel_22 : decode zb_XPiece_firstPixel 22 = .ok (.iadd, 1) := by decide +kernel
theorem zd_XPiece_firstPixel_23 : decode zb_XPiece_firstPixel 23 = .ok (.iaload, 1) := by decide +kernel
theorem zd_XPiece_firstPixel_24 : decode zb_XPiece_firstPixel 24 = .ok (.invokestatic 35, 3) := by decide +kernel
theorem zd_XPiece_firstPixel_27 : decode zb_XPiece_firstPixel 27 = .ok (.invokestatic 35, 3) := by decide +kernel
theorem zd_XPiece_firstPixel_30 : decode zb_XPiece_firstPixel 30 = .ok (.istore_n 2, 1) := by decide +kernel
theorem zd_XPiece_firstPixel_31 : decode zb_XPiece_firstPixel 31 = .ok (.iload_n 2, 1) := by decide +kernel
theorem zd_XPiece_firstPixel_32 : decode zb_XPiece_firstPixel 32 = .ok (.bipush 7, 2) := by decide +kernel
theorem zd_XPiece_firstPixel_34 : decode zb_XPiece_firstPixel 34 = .ok (.iadd, 1) := by decide +kernel
theorem zd_XPiece_firstPixel_35 : decode zb_XPiece_firstPixel 35 = .ok (.iconst 4, 1) := by decide +kernel
theorem zd_XPiece_firstPixel_36 : decode zb_XPiece_firstPixel 36 = .ok (.ishr, 1) := by decide +kernel
theorem zd_XPiece_firstPixel_37 : decode zb_XPiece_firstPixel 37 = .ok (.ireturn, 1) := by decide +kernel
theorem zw_797 : (Jvm.Cond.methodLink "OrreryBox$Piece" (35 : Nat) ({ cls := "java/lang/Math", name := "min", desc := "(II)I" } : Jvm.MethodName)) ∈ gw := gw_t 797 (by decide +kernel) rfl
theorem zs_XPiece_35 : zwS "OrreryBox$Piece" 35 zy_JMath_min zb_JMath_min 2 (some .int) := ⟨zw_797, zw_121, zw_4, zc_JMath_min⟩
def F_XPiece_firstPixel (sh : zSh) (mm : zMem) (o : Nat) (x0_ : Int32) : Option (Int32 × zMem) := zoS (sh o) 6 (fun le2 => Option.bind (mm.2.2 o 1) (fun a3 => zoS (sh a3) 100 (fun le5 => if (x0_ : Int32) < 0 ∨ le5 ≤ (x0_ : Int32).toNatClampNeg then none else zoS (sh o) 6 (fun le8 => Option.bind (mm.2.2 o 1) (fun a9 => zoL (6 + x0_) (fun i10 => zoS (sh a9) 100 (fun le12 => if (i10 : Int32) < 0 ∨ le12 ≤ (i10 : Int32).toNatClampNeg then none else zoS (sh o) 6 (fun le15 => Option.bind (mm.2.2 o 1) (fun a16 => zoL (12 + x0_) (fun i17 => zoS (sh a16) 100 (fun le19 => if (i17 : Int32) < 0 ∨ le19 ≤ (i17 : Int32).toNatClampNeg then none else zoL (mm.1 a9 (i10 : Int32).toNatClampNeg) (fun x21 => zoL (mm.1 a16 (i17 : Int32).toNatClampNeg) (fun x22 => zoL (mm.1 a3 (x0_ : Int32).toNatClampNeg) (fun x24 => zoL (zx_min x24 (zx_min x21 x22)) (fun x26 => some (((x26 + 7) >>> (4 &&& 31)), mm))))))))))))))))
set_option maxHeartbeats 4000000 in
set_option maxRecDepth 100000 in
theorem k_XPiece_firstPixel (l : Launch) (D : va_G) (tA : Nat → ClassId) (b : Nat) (sh : zSh) (n : Nat) {mm : zMem} {o : Nat} {x0_ : Int32} {r : (Int32 × zMem)} (h : F_XPiece_firstPixel sh mm o x0_ = some r) : zM l D tA b zy_XPiece_firstPixel zb_XPiece_firstPixel 3 (some .int) 1 21 0 0 [.ref (b + o), .int x0_] (zW tA b sh mm) n (zE (some (.int (r.1))) (zW tA b sh r.2) n) := by
  unfold F_XPiece_firstPixel at h
  refine zM_of (own := "OrreryBox$Piece") (plainFor_of_name (by decide)) rfl (Nat.le_of_ble_eq_true rfl) (fun p e s m below meth c F hr hin hH => ?_)
  refine zr_aload_n F zd_XPiece_firstPixel_0 rfl ?_
  obtain ⟨le2, hs1, h⟩ := zoS_s h
  obtain ⟨a3, ea3, h⟩ := zoB_s h
  refine zr_get F 6 1 zd_XPiece_firstPixel_1 (zW_o hs1 (by decide)) rfl (by decide) zw_351 rfl (by rfl) ?_
  refine zr_tor ea3 ?_
  refine zr_iload_n F zd_XPiece_firstPixel_4 rfl ?_
  obtain ⟨le5, hs4, h⟩ := zoS_s h
  obtain ⟨hi6, h⟩ := zoI_s h
  refine zr_iald F zd_XPiece_firstPixel_5 (zW_a0 hs4) hi6 ?_
  refine zr_aload_n F zd_XPiece_firstPixel_6 rfl ?_
  obtain ⟨le8, hs7, h⟩ := zoS_s h
  obtain ⟨a9, ea9, h⟩ := zoB_s h
  refine zr_get F 6 1 zd_XPiece_firstPixel_7 (zW_o hs7 (by decide)) rfl (by decide) zw_351 rfl (by rfl) ?_
  refine zr_tor ea9 ?_
  refine zr_bipushv (v := 6) F zd_XPiece_firstPixel_10 (by decide) ?_
  refine zr_pcn 12 rfl ?_
  refine zr_iload_n F zd_XPiece_firstPixel_12 rfl ?_
  refine zr_iadd F zd_XPiece_firstPixel_13 ?_
  obtain ⟨i10, ei10, h⟩ := zoL_s h
  rw [← ei10]
  obtain ⟨le12, hs11, h⟩ := zoS_s h
  obtain ⟨hi13, h⟩ := zoI_s h
  refine zr_iald F zd_XPiece_firstPixel_14 (zW_a0 hs11) hi13 ?_
  refine zr_aload_n F zd_XPiece_firstPixel_15 rfl ?_
  obtain ⟨le15, hs14, h⟩ := zoS_s h
  obtain ⟨a16, ea16, h⟩ := zoB_s h
  refine zr_get F 6 1 zd_XPiece_firstPixel_16 (zW_o hs14 (by decide)) rfl (by decide) zw_351 rfl (by rfl) ?_
  refine zr_tor ea16 ?_
  refine zr_bipushv (v := 12) F zd_XPiece_firstPixel_19 (by decide) ?_
  refine zr_iload_n F zd_XPiece_firstPixel_21 rfl ?_
  refine zr_iadd F zd_XPiece_firstPixel_22 ?_
  refine zr_pcn 23 rfl ?_
  obtain ⟨i17, ei17, h⟩ := zoL_s h
  rw [← ei17]
  obtain ⟨le19, hs18, h⟩ := zoS_s h
  obtain ⟨hi20, h⟩ := zoI_s h
  refine zr_iald F zd_XPiece_firstPixel_23 (zW_a0 hs18) hi20 ?_
  obtain ⟨x21, ex21, h⟩ := zoL_s h
  rw [← ex21]
  obtain ⟨x22, ex22, h⟩ := zoL_s h
  rw [← ex22]
  refine zr_callS1 F (c_JMath_min l D tA b _ _ x21 x22) zd_XPiece_firstPixel_24 zs_XPiece_35 zq_JMath_min rfl rfl ⟨(Nat.le_of_ble_eq_true rfl), (Nat.le_of_ble_eq_true rfl)⟩ (Nat.le_of_ble_eq_true rfl) ⟨(Nat.le_of_ble_eq_true rfl), (Nat.le_of_ble_eq_true rfl)⟩ ?_
  obtain ⟨x24, ex24, h⟩ := zoL_s h
  rw [← ex24]
  refine zr_callS1 F (c_JMath_min l D tA b _ _ x24 (zx_min x21 x22)) zd_XPiece_firstPixel_27 zs_XPiece_35 zq_JMath_min rfl rfl ⟨(Nat.le_of_ble_eq_true rfl), (Nat.le_of_ble_eq_true rfl)⟩ (Nat.le_of_ble_eq_true rfl) ⟨(Nat.le_of_ble_eq_true rfl), (Nat.le_of_ble_eq_true rfl)⟩ ?_
  obtain ⟨x26, ex26, h⟩ := zoL_s h
  rw [← ex26]
  refine zr_istore_n F zd_XPiece_firstPixel_30 (by decide) ?_
  refine zr_iload_n F zd_XPiece_firstPixel_31 rfl ?_
  refine zr_bipushv (v := 7) F zd_XPiece_firstPixel_32 (by decide) ?_
  refine zr_iadd F zd_XPiece_firstPixel_34 ?_
  refine zr_iconstv (v := 4) F zd_XPiece_firstPixel_35 (by decide) ?_
  refine zr_pcn 36 rfl ?_
  refine zr_ishr F zd_XPiece_firstPixel_36 ?_
  obtain rfl := Option.some.inj h
  exact zr_iret F hr zd_XPiece_firstPixel_37 (Nat.le_of_ble_eq_true rfl) (Nat.le_of_ble_eq_true rfl) ⟨rfl, rfl, rfl⟩
abbrev zb_XPiece_lastPixel : ByteArray := prog_7_method_8_code
def zy_XPiece_lastPixel : MethodName := ⟨"OrreryBox$Piece", "lastPixel", "(I)I"⟩
theorem zc_XPiece_lastPixel : Cond.code zy_XPiece_lastPixel zb_XPiece_lastPixel 3 (some .int) ∈ gw := gw_t 802 (by decide +kernel) rfl
theorem zq_XPiece_lastPixel : zy_XPiece_lastPixel.cls ≠ "java/lang/invoke/MethodHandle" ∧ zy_XPiece_lastPixel.cls ≠ "java/lang/invoke/VarHandle" ∧ (parseMethodDescriptor zy_XPiece_lastPixel.desc).map (fun d => d.parameters.length) = some 1 := by decide +kernel
theorem zd_XPiece_lastPixel_0 : decode zb_XPiece_lastPixel 0 = .ok (.aload_n 0, 1) := by decide +kernel
theorem zd_XPiece_lastPixel_1 : decode zb_XPiece_lastPixel 1 = .ok (.getfield 9, 3) := by decide +kernel
theorem zd_XPiece_lastPixel_4 : decode zb_XPiece_lastPixel 4 = .ok (.iload_n 1, 1) := by decide +kernel
theorem zd_XPiece_lastPixel_5 : decode zb_XPiece_lastPixel 5 = .ok (.iaload, 1) := by decide +kernel
theorem zd_XPiece_lastPixel_6 : decode zb_XPiece_lastPixel 6 = .ok (.aload_n 0, 1) := by decide +kernel
theorem zd_XPiece_lastPixel_7 : decode zb_XPiece_lastPixel 7 = .ok (.getfield 9, 3) := by decide +kernel
theorem zd_XPiece_lastPixel_10 : decode zb_XPiece_lastPixel 10 = .ok (.bipush 6, 2) := by decide +kernel
theorem zd_XPiece_lastPixel_12 : decode zb_XPiece_lastPixel 12 = .ok (.iload_n 1, 1) := by decide +kernel
theorem zd_XPiece_lastPixel_13 : decode zb_XPiece_lastPixel 13 = .ok (.iadd, 1) := by decide +kernel
theorem zd_XPiece_lastPixel_14 : decode zb_XPiece_lastPixel 14 = .ok (.iaload, 1) := by decide +kernel
theorem zd_XPiece_lastPixel_15 : decode zb_XPiece_lastPixel 15 = .ok (.aload_n 0, 1) := by decide +kernel
theorem zd_XPiece_lastPixel_16 : decode zb_XPiece_lastPixel 16 = .ok (.getfield 9, 3) := by decide +kernel
theorem zd_XPiece_lastPixel_19 : decode zb_XPiece_lastPixel 19 = .ok (.bipush 12, 2) := by decide +kernel
theorem zd_XPiece_lastPixel_21 : decode zb_XPiece_lastPixel 21 = .ok (.iload_n 1, 1) := by decide +kernel
theorem zd_XPiece_lastPixel_22 : decode zb_XPiece_lastPixel 22 = .ok (.iadd, 1) := by decide +kernel
theorem zd_XPiece_lastPixel_23 : decode zb_XPiece_lastPixel 23 = .ok (.iaload, 1) := by decide +kernel
theorem zd_XPiece_lastPixel_24 : decode zb_XPiece_lastPixel 24 = .ok (.invokestatic 39, 3) := by decide +kernel
theorem zd_XPiece_lastPixel_27 : decode zb_XPiece_lastPixel 27 = .ok (.invokestatic 39, 3) := by decide +kernel
theorem zd_XPiece_lastPixel_30 : decode zb_XPiece_lastPixel 30 = .ok (.istore_n 2, 1) := by decide +kernel
theorem zd_XPiece_lastPixel_31 : decode zb_XPiece_lastPixel 31 = .ok (.iload_n 2, 1) := by decide +kernel
theorem zd_XPiece_lastPixel_32 : decode zb_XPiece_lastPixel 32 = .ok (.bipush 8, 2) := by decide +kernel
theorem zd_XPiece_lastPixel_34 : decode zb_XPiece_lastPixel 34 = .ok (.isub, 1) := by decide +kernel
theorem zd_XPiece_lastPixel_35 : decode zb_XPiece_lastPixel 35 = .ok (.iconst 4, 1) := by decide +kernel
theorem zd_XPiece_lastPixel_36 : decode zb_XPiece_lastPixel 36 = .ok (.ishr, 1) := by decide +kernel
theorem zd_XPiece_lastPixel_37 : decode zb_XPiece_lastPixel 37 = .ok (.ireturn, 1) := by decide +kernel
theorem zw_803 : (Jvm.Cond.methodLink "OrreryBox$Piece" (39 : Nat) ({ cls := "java/lang/Math", name := "max", desc := "(II)I" } : Jvm.MethodName)) ∈ gw := gw_t 803 (by decide +kernel) rfl
theorem zs_XPiece_39 : zwS "OrreryBox$Piece" 39 zy_JMath_max zb_JMath_max 2 (some .int) := ⟨zw_803, zw_124, zw_4, zc_JMath_max⟩
def F_XPiece_lastPixel (sh : zSh) (mm : zMem) (o : Nat) (x0_ : Int32) : Option (Int32 × zMem) := zoS (sh o) 6 (fun le2 => Option.bind (mm.2.2 o 1) (fun a3 => zoS (sh a3) 100 (fun le5 => if (x0_ : Int32) < 0 ∨ le5 ≤ (x0_ : Int32).toNatClampNeg then none else zoS (sh o) 6 (fun le8 => Option.bind (mm.2.2 o 1) (fun a9 => zoL (6 + x0_) (fun i10 => zoS (sh a9) 100 (fun le12 => if (i10 : Int32) < 0 ∨ le12 ≤ (i10 : Int32).toNatClampNeg then none else zoS (sh o) 6 (fun le15 => Option.bind (mm.2.2 o 1) (fun a16 => zoL (12 + x0_) (fun i17 => zoS (sh a16) 100 (fun le19 => if (i17 : Int32) < 0 ∨ le19 ≤ (i17 : Int32).toNatClampNeg then none else zoL (mm.1 a9 (i10 : Int32).toNatClampNeg) (fun x21 => zoL (mm.1 a16 (i17 : Int32).toNatClampNeg) (fun x22 => zoL (mm.1 a3 (x0_ : Int32).toNatClampNeg) (fun x24 => zoL (zx_max x24 (zx_max x21 x22)) (fun x26 => some (((x26 - 8) >>> (4 &&& 31)), mm))))))))))))))))
set_option maxHeartbeats 4000000 in
set_option maxRecDepth 100000 in
theorem k_XPiece_lastPixel (l : Launch) (D : va_G) (tA : Nat → ClassId) (b : Nat) (sh : zSh) (n : Nat) {mm : zMem} {o : Nat} {x0_ : Int32} {r : (Int32 × zMem)} (h : F_XPiece_lastPixel sh mm o x0_ = some r) : zM l D tA b zy_XPiece_lastPixel zb_XPiece_lastPixel 3 (some .int) 1 21 0 0 [.ref (b + o), .int x0_] (zW tA b sh mm) n (zE (some (.int (r.1))) (zW tA b sh r.2) n) := by
  unfold F_XPiece_lastPixel at h
  refine zM_of (own := "OrreryBox$Piece") (plainFor_of_name (by decide)) rfl (Nat.le_of_ble_eq_true rfl) (fun p e s m below meth c F hr hin hH => ?_)
  refine zr_aload_n F zd_XPiece_lastPixel_0 rfl ?_
  obtain ⟨le2, hs1, h⟩ := zoS_s h
  obtain ⟨a3, ea3, h⟩ := zoB_s h
  refine zr_get F 6 1 zd_XPiece_lastPixel_1 (zW_o hs1 (by decide)) rfl (by decide) zw_351 rfl (by rfl) ?_
  refine zr_tor ea3 ?_
  refine zr_iload_n F zd_XPiece_lastPixel_4 rfl ?_
  obtain ⟨le5, hs4, h⟩ := zoS_s h
  obtain ⟨hi6, h⟩ := zoI_s h
  refine zr_iald F zd_XPiece_lastPixel_5 (zW_a0 hs4) hi6 ?_
  refine zr_aload_n F zd_XPiece_lastPixel_6 rfl ?_
  obtain ⟨le8, hs7, h⟩ := zoS_s h
  obtain ⟨a9, ea9, h⟩ := zoB_s h
  refine zr_get F 6 1 zd_XPiece_lastPixel_7 (zW_o hs7 (by decide)) rfl (by decide) zw_351 rfl (by rfl) ?_
  refine zr_tor ea9 ?_
  refine zr_bipushv (v := 6) F zd_XPiece_lastPixel_10 (by decide) ?_
  refine zr_pcn 12 rfl ?_
  refine zr_iload_n F zd_XPiece_lastPixel_12 rfl ?_
  refine zr_iadd F zd_XPiece_lastPixel_13 ?_
  obtain ⟨i10, ei10, h⟩ := zoL_s h
  rw [← ei10]
  obtain ⟨le12, hs11, h⟩ := zoS_s h
  obtain ⟨hi13, h⟩ := zoI_s h
  refine zr_iald F zd_XPiece_lastPixel_14 (zW_a0 hs11) hi13 ?_
  refine zr_aload_n F zd_XPiece_lastPixel_15 rfl ?_
  obtain ⟨le15, hs14, h⟩ := zoS_s h
  obtain ⟨a16, ea16, h⟩ := zoB_s h
  refine zr_get F 6 1 zd_XPiece_lastPixel_16 (zW_o hs14 (by decide)) rfl (by decide) zw_351 rfl (by rfl) ?_
  refine zr_tor ea16 ?_
  refine zr_bipushv (v := 12) F zd_XPiece_lastPixel_19 (by decide) ?_
  refine zr_iload_n F zd_XPiece_lastPixel_21 rfl ?_
  refine zr_iadd F zd_XPiece_lastPixel_22 ?_
  refine zr_pcn 23 rfl ?_
  obtain ⟨i17, ei17, h⟩ := zoL_s h
  rw [← ei17]
  obtain ⟨le19, hs18, h⟩ := zoS_s h
  obtain ⟨hi20, h⟩ := zoI_s h
  refine zr_iald F zd_XPiece_lastPixel_23 (zW_a0 hs18) hi20 ?_
  obtain ⟨x21, ex21, h⟩ := zoL_s h
  rw [← ex21]
  obtain ⟨x22, ex22, h⟩ := zoL_s h
  rw [← ex22]
  refine zr_callS1 F (c_JMath_max l D tA b _ _ x21 x22) zd_XPiece_lastPixel_24 zs_XPiece_39 zq_JMath_max rfl rfl ⟨(Nat.le_of_ble_eq_true rfl), (Nat.le_of_ble_eq_true rfl)⟩ (Nat.le_of_ble_eq_true rfl) ⟨(Nat.le_of_ble_eq_true rfl), (Nat.le_of_ble_eq_true rfl)⟩ ?_
  obtain ⟨x24, ex24, h⟩ := zoL_s h
  rw [← ex24]
  refine zr_callS1 F (c_JMath_max l D tA b _ _ x24 (zx_max x21 x22)) zd_XPiece_lastPixel_27 zs_XPiece_39 zq_JMath_max rfl rfl ⟨(Nat.le_of_ble_eq_true rfl), (Nat.le_of_ble_eq_true rfl)⟩ (Nat.le_of_ble_eq_true rfl) ⟨(Nat.le_of_ble_eq_true rfl), (Nat.le_of_ble_eq_true rfl)⟩ ?_
  obtain ⟨x26, ex26, h⟩ := zoL_s h
  rw [← ex26]
  refine zr_istore_n F zd_XPiece_lastPixel_30 (by decide) ?_
  refine zr_iload_n F zd_XPiece_lastPixel_31 rfl ?_
  refine zr_bipushv (v := 8) F zd_XPiece_lastPixel_32 (by decide) ?_
  refine zr_isub F zd_XPiece_lastPixel_34 ?_
  refine zr_iconstv (v := 4) F zd_XPiece_lastPixel_35 (by decide) ?_
  refine zr_pcn 36 rfl ?_
  refine zr_ishr F zd_XPiece_lastPixel_36 ?_
  obtain rfl := Option.some.inj h
  exact zr_iret F hr zd_XPiece_lastPixel_37 (Nat.le_of_ble_eq_true rfl) (Nat.le_of_ble_eq_true rfl) ⟨rfl, rfl, rfl⟩
abbrev zb_XPiece_mayCover : ByteArray := prog_7_method_9_code
def zy_XPiece_mayCover : MethodName := ⟨"OrreryBox$Piece", "mayCover", "(II)Z"⟩
theorem zc_XPiece_mayCover : Cond.code zy_XPiece_mayCover zb_XPiece_mayCover 3 (some .boolean) ∈ gw := gw_t 883 (by decide +kernel) rfl
theorem zq_XPiece_mayCover : zy_XPiece_mayCover.cls ≠ "java/lang/invoke/MethodHandle" ∧ zy_XPiece_mayCover.cls ≠ "java/lang/invoke/VarHandle" ∧ (parseMethodDescriptor zy_XPiece_mayCover.desc).map (fun d => d.parameters.length) = some 2 := by decide +kernel
theorem zd_XPiece_mayCover_0 : decode zb_XPiece_mayCover 0 = .ok (.iload_n 1, 1) := by decide +kernel
theorem zd_XPiece_mayCover_1 : decode zb_XPiece_mayCover 1 = .ok (.aload_n 0, 1) := by decide +kernel
theorem zd_XPiece_mayCover_2 : decode zb_XPiece_mayCover 2 = .ok (.iconst 0, 1) := by decide +kernel
theorem zd_XPiece_mayCover_3 : decode zb_XPiece_mayCover 3 = .ok (.invokevirtual 42, 3) := by decide +kernel
theorem zd_XPiece_mayCover_6 : decode zb_XPiece_mayCover 6 = .ok (.if_icmp .lt 34, 3) := by decide +kernel
theorem zd_XPiece_mayCover_9 : decode zb_XPiece_mayCover 9 = .ok (.iload_n 1, 1) := by decide +kernel
theorem zd_XPiece_mayCover_10 : decode zb_XPiece_mayCover 10 = .ok (.aload_n 0, 1) := by decide +kernel
theorem zd_XPiece_mayCover_11 : decode zb_XPiece_mayCover 11 = .ok (.iconst 0, 1) := by decide +kernel
theorem zd_XPiece_mayCover_12 : decode zb_XPiece_mayCover 12 = .ok (.invokevirtual 46, 3) := by decide +kernel
theorem zd_XPiece_mayCover_15 : decode zb_XPiece_mayCover 15 = .ok (.if_icmp .gt 25, 3) := by decide +kernel
theorem zd_XPiece_mayCover_18 : decode zb_XPiece_mayCover 18 = .ok (.iload_n 2, 1) := by decide +kernel
theorem zd_XPiece_mayCover_19 : decode zb_XPiece_mayCover 19 = .ok (.aload_n 0, 1) := by decide +kernel
theorem zd_XPiece_mayCover_20 : decode zb_XPiece_mayCover 20 = .ok (.iconst 1, 1) := by decide +kernel
theorem zd_XPiece_mayCover_21 : decode zb_XPiece_mayCover 21 = .ok (.invokevirtual 42, 3) := by decide +kernel
theorem zd_XPiece_mayCover_24 : decode zb_XPiece_mayCover 24 = .ok (.if_icmp .lt 16, 3) := by decide +kernel
theorem zd_XPiece_mayCover_27 : decode zb_XPiece_mayCover 27 = .ok (.iload_n 2, 1) := by decide +kernel
theorem zd_XPiece_mayCover_28 : decode zb_XPiece_mayCover 28 = .ok (.aload_n 0, 1) := by decide +kernel
theorem zd_XPiece_mayCover_29 : decode zb_XPiece_mayCover 29 = .ok (.iconst 1, 1) := by decide +kernel
theorem zd_XPiece_mayCover_30 : decode zb_XPiece_mayCover 30 = .ok (.invokevirtual 46, 3) := by decide +kernel
theorem zd_XPiece_mayCover_33 : decode zb_XPiece_mayCover 33 = .ok (.if_icmp .gt 7, 3) := by decide +kernel
theorem zd_XPiece_mayCover_36 : decode zb_XPiece_mayCover 36 = .ok (.iconst 1, 1) := by decide +kernel
theorem zd_XPiece_mayCover_37 : decode zb_XPiece_mayCover 37 = .ok (.goto 4, 3) := by decide +kernel
theorem zd_XPiece_mayCover_40 : decode zb_XPiece_mayCover 40 = .ok (.iconst 0, 1) := by decide +kernel
theorem zd_XPiece_mayCover_41 : decode zb_XPiece_mayCover 41 = .ok (.ireturn, 1) := by decide +kernel
theorem zw_884 : (Jvm.Cond.methodLink "OrreryBox$Piece" (42 : Nat) ({ cls := "OrreryBox$Piece", name := "firstPixel", desc := "(I)I" } : Jvm.MethodName)) ∈ gw := gw_t 884 (by decide +kernel) rfl
theorem zw_794 : (Jvm.Cond.instanceMethod ({ cls := "OrreryBox$Piece", name := "firstPixel", desc := "(I)I" } : Jvm.MethodName)) ∈ gw := gw_t 794 (by decide +kernel) rfl
theorem zw_795 : (Jvm.Cond.selects "OrreryBox$Piece" ({ cls := "OrreryBox$Piece", name := "firstPixel", desc := "(I)I" } : Jvm.MethodName) ({ cls := "OrreryBox$Piece", name := "firstPixel", desc := "(I)I" } : Jvm.MethodName)) ∈ gw := gw_t 795 (by decide +kernel) rfl
theorem zs_XPiece_42 : zwV "OrreryBox$Piece" 42 "OrreryBox$Piece" zy_XPiece_firstPixel zb_XPiece_firstPixel 3 (some .int) := ⟨zw_884, zw_794, zw_795, zw_11, zc_XPiece_firstPixel⟩
theorem zw_885 : (Jvm.Cond.methodLink "OrreryBox$Piece" (46 : Nat) ({ cls := "OrreryBox$Piece", name := "lastPixel", desc := "(I)I" } : Jvm.MethodName)) ∈ gw := gw_t 885 (by decide +kernel) rfl
theorem zw_800 : (Jvm.Cond.instanceMethod ({ cls := "OrreryBox$Piece", name := "lastPixel", desc := "(I)I" } : Jvm.MethodName)) ∈ gw := gw_t 800 (by decide +kernel) rfl
theorem zw_801 : (Jvm.Cond.selects "OrreryBox$Piece" ({ cls := "OrreryBox$Piece", name := "lastPixel", desc := "(I)I" } : Jvm.MethodName) ({ cls := "OrreryBox$Piece", name := "lastPixel", desc := "(I)I" } : Jvm.MethodName)) ∈ gw := gw_t 801 (by decide +kernel) rfl
theorem zs_XPiece_46 : zwV "OrreryBox$Piece" 46 "OrreryBox$Piece" zy_XPiece_lastPixel zb_XPiece_lastPixel 3 (some .int) := ⟨zw_885, zw_800, zw_801, zw_11, zc_XPiece_lastPixel⟩
def F_XPiece_mayCover (sh : zSh) (mm : zMem) (o : Nat) (x0_ : Int32) (x1_ : Int32) : Option (Int32 × zMem) := zoS (sh o) 6 (fun le2 => Option.bind (F_XPiece_firstPixel sh mm o 0) (fun p3 => (if x0_ < p3.1 then some (0, p3.2) else zoS (sh o) 6 (fun le6 => Option.bind (F_XPiece_lastPixel sh (p3.2) o 0) (fun p7 => (if p7.1 < x0_ then some (0, p7.2) else zoS (sh o) 6 (fun le10 => Option.bind (F_XPiece_firstPixel sh (p7.2) o 1) (fun p11 => (if x1_ < p11.1 then some (0, p11.2) else zoS (sh o) 6 (fun le14 => Option.bind (F_XPiece_lastPixel sh (p11.2) o 1) (fun p15 => (if p15.1 < x1_ then some (0, p15.2) else some (1, p15.2)))))))))))))
set_option maxHeartbeats 4000000 in
set_option maxRecDepth 100000 in
theorem k_XPiece_mayCover (l : Launch) (D : va_G) (tA : Nat → ClassId) (b : Nat) (sh : zSh) (n : Nat) {mm : zMem} {o : Nat} {x0_ : Int32} {x1_ : Int32} {r : (Int32 × zMem)} (h : F_XPiece_mayCover sh mm o x0_ x1_ = some r) : zM l D tA b zy_XPiece_mayCover zb_XPiece_mayCover 3 (some .boolean) 2 43 0 0 [.ref (b + o), .int x0_, .int x1_] (zW tA b sh mm) n (zE (some (.int (r.1))) (zW tA b sh r.2) n) := by
  unfold F_XPiece_mayCover at h
  refine zM_of (own := "OrreryBox$Piece") (plainFor_of_name (by decide)) rfl (Nat.le_of_ble_eq_true rfl) (fun p e s m below meth c F hr hin hH => ?_)
  refine zr_iload_n F zd_XPiece_mayCover_0 rfl ?_
  refine zr_aload_n F zd_XPiece_mayCover_1 rfl ?_
  refine zr_iconstv (v := 0) F zd_XPiece_mayCover_2 (by decide) ?_
  obtain ⟨le2, hs1, h⟩ := zoS_s h
  obtain ⟨p3, ep3, h⟩ := zoB_s h
  refine zr_callV1 F (k_XPiece_firstPixel l D tA b sh _ ep3) zd_XPiece_mayCover_3 (zW_o hs1 (by decide)) rfl zs_XPiece_42 rfl zq_XPiece_firstPixel rfl rfl ⟨(Nat.le_of_ble_eq_true rfl), (Nat.le_of_ble_eq_true rfl)⟩ (Nat.le_of_ble_eq_true rfl) ⟨(Nat.le_of_ble_eq_true rfl), (Nat.le_of_ble_eq_true rfl)⟩ ?_
  refine zr_icmp_lt F 40 zd_XPiece_mayCover_6 (by decide) (fun hb4 => ?_) (fun hb4 => ?_)
  ·
    rw [if_pos hb4] at h
    refine zr_iconstv (v := 0) F zd_XPiece_mayCover_40 (by decide) ?_
    obtain rfl := Option.some.inj h
    exact zr_zret F hr rfl zd_XPiece_mayCover_41 (Nat.le_of_ble_eq_true rfl) (Nat.le_of_ble_eq_true rfl) ⟨rfl, rfl, rfl⟩
  ·
    rw [if_neg hb4] at h
    refine zr_pcn 9 rfl ?_
    refine zr_iload_n F zd_XPiece_mayCover_9 rfl ?_
    refine zr_aload_n F zd_XPiece_mayCover_10 rfl ?_
    refine zr_iconstv (v := 0) F zd_XPiece_mayCover_11 (by decide) ?_
    obtain ⟨le6, hs5, h⟩ := zoS_s h
    obtain ⟨p7, ep7, h⟩ := zoB_s h
    refine zr_callV1 F (k_XPiece_lastPixel l D tA b sh _ ep7) zd_XPiece_mayCover_12 (zW_o hs5 (by decide)) rfl zs_XPiece_46 rfl zq_XPiece_lastPixel rfl rfl ⟨(Nat.le_of_ble_eq_true rfl), (Nat.le_of_ble_eq_true rfl)⟩ (Nat.le_of_ble_eq_true rfl) ⟨(Nat.le_of_ble_eq_true rfl), (Nat.le_of_ble_eq_true rfl)⟩ ?_
    refine zr_icmp_gt F 40 zd_XPiece_mayCover_15 (by decide) (fun hb8 => ?_) (fun hb8 => ?_)
    ·
      rw [if_pos hb8] at h
      refine zr_iconstv (v := 0) F zd_XPiece_mayCover_40 (by decide) ?_
      obtain rfl := Option.some.inj h
      exact zr_zret F hr rfl zd_XPiece_mayCover_41 (Nat.le_of_ble_eq_true rfl) (Nat.le_of_ble_eq_true rfl) ⟨rfl, rfl, rfl⟩
    ·
      rw [if_neg hb8] at h
      refine zr_iload_n F zd_XPiece_mayCover_18 rfl ?_
      refine zr_pcn 19 rfl ?_
      refine zr_aload_n F zd_XPiece_mayCover_19 rfl ?_
      refine zr_iconstv (v := 1) F zd_XPiece_mayCover_20 (by decide) ?_
      obtain ⟨le10, hs9, h⟩ := zoS_s h
      obtain ⟨p11, ep11, h⟩ := zoB_s h
      refine zr_callV1 F (k_XPiece_firstPixel l D tA b sh _ ep11) zd_XPiece_mayCover_21 (zW_o hs9 (by decide)) rfl zs_XPiece_42 rfl zq_XPiece_firstPixel rfl rfl ⟨(Nat.le_of_ble_eq_true rfl), (Nat.le_of_ble_eq_true rfl)⟩ (Nat.le_of_ble_eq_true rfl) ⟨(Nat.le_of_ble_eq_true rfl), (Nat.le_of_ble_eq_true rfl)⟩ ?_
      refine zr_icmp_lt F 40 zd_XPiece_mayCover_24 (by decide) (fun hb12 => ?_) (fun hb12 => ?_)
      ·
        rw [if_pos hb12] at h
        refine zr_iconstv (v := 0) F zd_XPiece_mayCover_40 (by decide) ?_
        obtain rfl := Option.some.inj h
        exact zr_zret F hr rfl zd_XPiece_mayCover_41 (Nat.le_of_ble_eq_true rfl) (Nat.le_of_ble_eq_true rfl) ⟨rfl, rfl, rfl⟩
      ·
        rw [if_neg hb12] at h
        refine zr_iload_n F zd_XPiece_mayCover_27 rfl ?_
        refine zr_aload_n F zd_XPiece_mayCover_28 rfl ?_
        refine zr_pcn 29 rfl ?_
        refine zr_iconstv (v := 1) F zd_XPiece_mayCover_29 (by decide) ?_
        obtain ⟨le14, hs13, h⟩ := zoS_s h
        obtain ⟨p15, ep15, h⟩ := zoB_s h
        refine zr_callV1 F (k_XPiece_lastPixel l D tA b sh _ ep15) zd_XPiece_mayCover_30 (zW_o hs13 (by decide)) rfl zs_XPiece_46 rfl zq_XPiece_lastPixel rfl rfl ⟨(Nat.le_of_ble_eq_true rfl), (Nat.le_of_ble_eq_true rfl)⟩ (Nat.le_of_ble_eq_true rfl) ⟨(Nat.le_of_ble_eq_true rfl), (Nat.le_of_ble_eq_true rfl)⟩ ?_
        refine zr_icmp_gt F 40 zd_XPiece_mayCover_33 (by decide) (fun hb16 => ?_) (fun hb16 => ?_)
        ·
          rw [if_pos hb16] at h
          refine zr_iconstv (v := 0) F zd_XPiece_mayCover_40 (by decide) ?_
          obtain rfl := Option.some.inj h
          exact zr_zret F hr rfl zd_XPiece_mayCover_41 (Nat.le_of_ble_eq_true rfl) (Nat.le_of_ble_eq_true rfl) ⟨rfl, rfl, rfl⟩
        ·
          rw [if_neg hb16] at h
          refine zr_iconstv (v := 1) F zd_XPiece_mayCover_36 (by decide) ?_
          refine zr_goto F 41 zd_XPiece_mayCover_37 (by decide) ?_
          obtain rfl := Option.some.inj h
          exact zr_zret F hr rfl zd_XPiece_mayCover_41 (Nat.le_of_ble_eq_true rfl) (Nat.le_of_ble_eq_true rfl) ⟨rfl, rfl, rfl⟩
abbrev zb_XPiece_edge : ByteArray := prog_7_method_11_code
def zy_XPiece_edge : MethodName := ⟨"OrreryBox$Piece", "edge", "(IIII)J"⟩
theorem zc_XPiece_edge : Cond.code zy_XPiece_edge zb_XPiece_edge 5 (some .long) ∈ gw := gw_t 824 (by decide +kernel) rfl
theorem zq_XPiece_edge : zy_XPiece_edge.cls ≠ "java/lang/invoke/MethodHandle" ∧ zy_XPiece_edge.cls ≠ "java/lang/invoke/VarHandle" ∧ (parseMethodDescriptor zy_XPiece_edge.desc).map (fun d => d.parameters.length) = some 4 := by decide +kernel
theorem zd_XPiece_edge_0 : decode zb_XPiece_edge 0 = .ok (.aload_n 0, 1) := by decide +kernel
theorem zd_XPiece_edge_1 : decode zb_XPiece_edge 1 = .ok (.getfield 9, 3) := by decide +kernel
theorem zd_XPiece_edge_4 : decode zb_XPiece_edge 4 = .ok (.iload_n 2, 1) := by decide +kernel
theorem zd_XPiece_edge_5 : decode zb_XPiece_edge 5 = .ok (.iaload, 1) := by decide +kernel
theorem zd_XPiece_edge_6 : decode zb_XPiece_edge 6 = .ok (.aload_n 0, 1) := by decide +kernel
theorem zd_XPiece_edge_7 : decode zb_XPiece_edge 7 = .ok (.getfield 9, 3) := by decide +kernel
theorem zd_XPiece_edge_10 : decode zb_XPiece_edge 10 = .ok (.iload_n 1, 1) := by decide +kernel
theorem zd_XPiece_edge_11 : decode zb_XPiece_edge 11 = .ok (.iaload, 1) := by decide +kernel
theorem zd_XPiece_edge_12 : decode zb_XPiece_edge 12 = .ok (.isub, 1) := by decide +kernel
theorem zd_XPiece_edge_13 : decode zb_XPiece_edge 13 = .ok (.i2l, 1) := by decide +kernel
theorem zd_XPiece_edge_14 : decode zb_XPiece_edge 14 = .ok (.iload 4, 2) := by decide +kernel
theorem zd_XPiece_edge_16 : decode zb_XPiece_edge 16 = .ok (.aload_n 0, 1) := by decide +kernel
theorem zd_XPiece_edge_17 : decode zb_XPiece_edge 17 = .ok (.getfield 9, 3) := by decide +kernel
theorem zd_XPiece_edge_20 : decode zb_XPiece_edge 20 = .ok (.iload_n 1, 1) := by decide +kernel
theorem zd_XPiece_edge_21 : decode zb_XPiece_edge 21 = .ok (.iconst 1, 1) := by decide +kernel
theorem zd_XPiece_edge_22 : decode zb_XPiece_edge 22 = .ok (.iadd, 1) := by decide +kernel
theorem zd_XPiece_edge_23 : decode zb_XPiece_edge 23 = .ok (.iaload, 1) := by decide +kernel
theorem zd_XPiece_edge_24 : decode zb_XPiece_edge 24 = .ok (.isub, 1) := by decide +kernel
theorem zd_XPiece_edge_25 : decode zb_XPiece_edge 25 = .ok (.i2l, 1) := by decide +kernel
theorem zd_XPiece_edge_26 : decode zb_XPiece_edge 26 = .ok (.lmul, 1) := by decide +kernel
theorem zd_XPiece_edge_27 : decode zb_XPiece_edge 27 = .ok (.aload_n 0, 1) := by decide +kernel
theorem zd_XPiece_edge_28 : decode zb_XPiece_edge 28 = .ok (.getfield 9, 3) := by decide +kernel
theorem zd_XPiece_edge_31 : decode zb_XPiece_edge 31 = .ok (.iload_n 2, 1) := by decide +kernel
theorem zd_XPiece_edge_32 : decode zb_XPiece_edge 32 = .ok (.iconst 1, 1) := by decide +kernel
theorem zd_XPiece_edge_33 : decode zb_XPiece_edge 33 = .ok (.iadd, 1) := by decide +kernel
theorem zd_XPiece_edge_34 : decode zb_XPiece_edge 34 = .ok (.iaload, 1) := by decide +kernel
theorem zd_XPiece_edge_35 : decode zb_XPiece_edge 35 = .ok (.aload_n 0, 1) := by decide +kernel
theorem zd_XPiece_edge_36 : decode zb_XPiece_edge 36 = .ok (.getfield 9, 3) := by decide +kernel
theorem zd_XPiece_edge_39 : decode zb_XPiece_edge 39 = .ok (.iload_n 1, 1) := by decide +kernel
theorem zd_XPiece_edge_40 : decode zb_XPiece_edge 40 = .ok (.iconst 1, 1) := by decide +kernel
theorem zd_XPiece_edge_41 : decode zb_XPiece_edge 41 = .ok (.iadd, 1) := by decide +kernel
theorem zd_XPiece_edge_42 : decode zb_XPiece_edge 42 = .ok (.iaload, 1) := by decide +kernel
theorem zd_XPiece_edge_43 : decode zb_XPiece_edge 43 = .ok (.isub, 1) := by decide +kernel
theorem zd_XPiece_edge_44 : decode zb_XPiece_edge 44 = .ok (.i2l, 1) := by decide +kernel
theorem zd_XPiece_edge_45 : decode zb_XPiece_edge 45 = .ok (.iload_n 3, 1) := by decide +kernel
theorem zd_XPiece_edge_46 : decode zb_XPiece_edge 46 = .ok (.aload_n 0, 1) := by decide +kernel
theorem zd_XPiece_edge_47 : decode zb_XPiece_edge 47 = .ok (.getfield 9, 3) := by decide +kernel
theorem zd_XPiece_edge_50 : decode zb_XPiece_edge 50 = .ok (.iload_n 1, 1) := by decide +kernel
theorem zd_XPiece_edge_51 : decode zb_XPiece_edge 51 = .ok (.iaload, 1) := by decide +kernel
theorem zd_XPiece_edge_52 : decode zb_XPiece_edge 52 = .ok (.isub, 1) := by decide +kernel
theorem zd_XPiece_edge_53 : decode zb_XPiece_edge 53 = .ok (.i2l, 1) := by decide +kernel
theorem zd_XPiece_edge_54 : decode zb_XPiece_edge 54 = .ok (.lmul, 1) := by decide +kernel
theorem zd_XPiece_edge_55 : decode zb_XPiece_edge 55 = .ok (.lsub, 1) := by decide +kernel
theorem zd_XPiece_edge_56 : decode zb_XPiece_edge 56 = .ok (.lreturn, 1) := by decide +kernel
def F_XPiece_edge (sh : zSh) (mm : zMem) (o : Nat) (x0_ : Int32) (x1_ : Int32) (x2_ : Int32) (x3_ : Int32) : Option (Int64 × zMem) := zoS (sh o) 6 (fun le2 => Option.bind (mm.2.2 o 1) (fun a3 => zoS (sh a3) 100 (fun le5 => if (x1_ : Int32) < 0 ∨ le5 ≤ (x1_ : Int32).toNatClampNeg then none else zoS (sh o) 6 (fun le8 => Option.bind (mm.2.2 o 1) (fun a9 => zoS (sh a9) 100 (fun le11 => if (x0_ : Int32) < 0 ∨ le11 ≤ (x0_ : Int32).toNatClampNeg then none else zoS (sh o) 6 (fun le14 => Option.bind (mm.2.2 o 1) (fun a15 => zoL (x0_ + 1) (fun i16 => zoS (sh a15) 100 (fun le18 => if (i16 : Int32) < 0 ∨ le18 ≤ (i16 : Int32).toNatClampNeg then none else zoS (sh o) 6 (fun le21 => Option.bind (mm.2.2 o 1) (fun a22 => zoL (x1_ + 1) (fun i23 => zoS (sh a22) 100 (fun le25 => if (i23 : Int32) < 0 ∨ le25 ≤ (i23 : Int32).toNatClampNeg then none else zoS (sh o) 6 (fun le28 => Option.bind (mm.2.2 o 1) (fun a29 => zoL (x0_ + 1) (fun i30 => zoS (sh a29) 100 (fun le32 => if (i30 : Int32) < 0 ∨ le32 ≤ (i30 : Int32).toNatClampNeg then none else zoS (sh o) 6 (fun le35 => Option.bind (mm.2.2 o 1) (fun a36 => zoS (sh a36) 100 (fun le38 => if (x0_ : Int32) < 0 ∨ le38 ≤ (x0_ : Int32).toNatClampNeg then none else some (((((((mm.1 a3 (x1_ : Int32).toNatClampNeg) - (mm.1 a9 (x0_ : Int32).toNatClampNeg)) : Int32).toInt64) * (((x3_ - (mm.1 a15 (i16 : Int32).toNatClampNeg)) : Int32).toInt64)) - (((((mm.1 a22 (i23 : Int32).toNatClampNeg) - (mm.1 a29 (i30 : Int32).toNatClampNeg)) : Int32).toInt64) * (((x2_ - (mm.1 a36 (x0_ : Int32).toNatClampNeg)) : Int32).toInt64))), mm))))))))))))))))))))))
set_option maxHeartbeats 4000000 in
set_option maxRecDepth 100000 in
theorem k_XPiece_edge (l : Launch) (D : va_G) (tA : Nat → ClassId) (b : Nat) (sh : zSh) (n : Nat) {mm : zMem} {o : Nat} {x0_ : Int32} {x1_ : Int32} {x2_ : Int32} {x3_ : Int32} {r : (Int64 × zMem)} (h : F_XPiece_edge sh mm o x0_ x1_ x2_ x3_ = some r) : zM l D tA b zy_XPiece_edge zb_XPiece_edge 5 (some .long) 0 0 0 0 [.ref (b + o), .int x0_, .int x1_, .int x2_, .int x3_] (zW tA b sh mm) n (zE (some (.long (r.1))) (zW tA b sh r.2) n) := by
  unfold F_XPiece_edge at h
  refine zM_of (own := "OrreryBox$Piece") (plainFor_of_name (by decide)) rfl (Nat.le_of_ble_eq_true rfl) (fun p e s m below meth c F hr hin hH => ?_)
  refine zr_aload_n F zd_XPiece_edge_0 rfl ?_
  obtain ⟨le2, hs1, h⟩ := zoS_s h
  obtain ⟨a3, ea3, h⟩ := zoB_s h
  refine zr_get F 6 1 zd_XPiece_edge_1 (zW_o hs1 (by decide)) rfl (by decide) zw_351 rfl (by rfl) ?_
  refine zr_tor ea3 ?_
  refine zr_iload_n F zd_XPiece_edge_4 rfl ?_
  obtain ⟨le5, hs4, h⟩ := zoS_s h
  obtain ⟨hi6, h⟩ := zoI_s h
  refine zr_iald F zd_XPiece_edge_5 (zW_a0 hs4) hi6 ?_
  refine zr_aload_n F zd_XPiece_edge_6 rfl ?_
  obtain ⟨le8, hs7, h⟩ := zoS_s h
  obtain ⟨a9, ea9, h⟩ := zoB_s h
  refine zr_get F 6 1 zd_XPiece_edge_7 (zW_o hs7 (by decide)) rfl (by decide) zw_351 rfl (by rfl) ?_
  refine zr_tor ea9 ?_
  refine zr_iload_n F zd_XPiece_edge_10 rfl ?_
  refine zr_pcn 11 rfl ?_
  obtain ⟨le11, hs10, h⟩ := zoS_s h
  obtain ⟨hi12, h⟩ := zoI_s h
  refine zr_iald F zd_XPiece_edge_11 (zW_a0 hs10) hi12 ?_
  refine zr_isub F zd_XPiece_edge_12 ?_
  refine zr_i2l F zd_XPiece_edge_13 ?_
  refine zr_iload F zd_XPiece_edge_14 rfl ?_
  refine zr_aload_n F zd_XPiece_edge_16 rfl ?_
  obtain ⟨le14, hs13, h⟩ := zoS_s h
  obtain ⟨a15, ea15, h⟩ := zoB_s h
  refine zr_get F 6 1 zd_XPiece_edge_17 (zW_o hs13 (by decide)) rfl (by decide) zw_351 rfl (by rfl) ?_
  refine zr_tor ea15 ?_
  refine zr_iload_n F zd_XPiece_edge_20 rfl ?_
  refine zr_iconstv (v := 1) F zd_XPiece_edge_21 (by decide) ?_
  refine zr_pcn 22 rfl ?_
  refine zr_iadd F zd_XPiece_edge_22 ?_
  obtain ⟨i16, ei16, h⟩ := zoL_s h
  rw [← ei16]
  obtain ⟨le18, hs17, h⟩ := zoS_s h
  obtain ⟨hi19, h⟩ := zoI_s h
  refine zr_iald F zd_XPiece_edge_23 (zW_a0 hs17) hi19 ?_
  refine zr_isub F zd_XPiece_edge_24 ?_
  refine zr_i2l F zd_XPiece_edge_25 ?_
  refine zr_lmul F zd_XPiece_edge_26 ?_
  refine zr_aload_n F zd_XPiece_edge_27 rfl ?_
  obtain ⟨le21, hs20, h⟩ := zoS_s h
  obtain ⟨a22, ea22, h⟩ := zoB_s h
  refine zr_get F 6 1 zd_XPiece_edge_28 (zW_o hs20 (by decide)) rfl (by decide) zw_351 rfl (by rfl) ?_
  refine zr_tor ea22 ?_
  refine zr_iload_n F zd_XPiece_edge_31 rfl ?_
  refine zr_pcn 32 rfl ?_
  refine zr_iconstv (v := 1) F zd_XPiece_edge_32 (by decide) ?_
  refine zr_iadd F zd_XPiece_edge_33 ?_
  obtain ⟨i23, ei23, h⟩ := zoL_s h
  rw [← ei23]
  obtain ⟨le25, hs24, h⟩ := zoS_s h
  obtain ⟨hi26, h⟩ := zoI_s h
  refine zr_iald F zd_XPiece_edge_34 (zW_a0 hs24) hi26 ?_
  refine zr_aload_n F zd_XPiece_edge_35 rfl ?_
  obtain ⟨le28, hs27, h⟩ := zoS_s h
  obtain ⟨a29, ea29, h⟩ := zoB_s h
  refine zr_get F 6 1 zd_XPiece_edge_36 (zW_o hs27 (by decide)) rfl (by decide) zw_351 rfl (by rfl) ?_
  refine zr_tor ea29 ?_
  refine zr_iload_n F zd_XPiece_edge_39 rfl ?_
  refine zr_iconstv (v := 1) F zd_XPiece_edge_40 (by decide) ?_
  refine zr_iadd F zd_XPiece_edge_41 ?_
  refine zr_pcn 42 rfl ?_
  obtain ⟨i30, ei30, h⟩ := zoL_s h
  rw [← ei30]
  obtain ⟨le32, hs31, h⟩ := zoS_s h
  obtain ⟨hi33, h⟩ := zoI_s h
  refine zr_iald F zd_XPiece_edge_42 (zW_a0 hs31) hi33 ?_
  refine zr_isub F zd_XPiece_edge_43 ?_
  refine zr_i2l F zd_XPiece_edge_44 ?_
  refine zr_iload_n F zd_XPiece_edge_45 rfl ?_
  refine zr_aload_n F zd_XPiece_edge_46 rfl ?_
  obtain ⟨le35, hs34, h⟩ := zoS_s h
  obtain ⟨a36, ea36, h⟩ := zoB_s h
  refine zr_get F 6 1 zd_XPiece_edge_47 (zW_o hs34 (by decide)) rfl (by decide) zw_351 rfl (by rfl) ?_
  refine zr_tor ea36 ?_
  refine zr_iload_n F zd_XPiece_edge_50 rfl ?_
  obtain ⟨le38, hs37, h⟩ := zoS_s h
  obtain ⟨hi39, h⟩ := zoI_s h
  refine zr_iald F zd_XPiece_edge_51 (zW_a0 hs37) hi39 ?_
  refine zr_pcn 52 rfl ?_
  refine zr_isub F zd_XPiece_edge_52 ?_
  refine zr_i2l F zd_XPiece_edge_53 ?_
  refine zr_lmul F zd_XPiece_edge_54 ?_
  refine zr_lsub F zd_XPiece_edge_55 ?_
  obtain rfl := Option.some.inj h
  exact zr_lret F hr zd_XPiece_edge_56 (Nat.le_of_ble_eq_true rfl) (Nat.le_of_ble_eq_true rfl) ⟨rfl, rfl, rfl⟩
