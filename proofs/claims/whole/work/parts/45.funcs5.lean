abbrev zb_MScene_of : ByteArray := prog_18_method_5_code
def zy_MScene_of : MethodName := ⟨"OrreryBoxModel$Scene", "of", "(I)[I"⟩
theorem zc_MScene_of : Cond.code zy_MScene_of zb_MScene_of 2 (some (.array .int)) ∈ gw := gw_t 1942 (by decide +kernel) rfl
theorem zq_MScene_of : zy_MScene_of.cls ≠ "java/lang/invoke/MethodHandle" ∧ zy_MScene_of.cls ≠ "java/lang/invoke/VarHandle" ∧ (parseMethodDescriptor zy_MScene_of.desc).map (fun d => d.parameters.length) = some 1 := by decide +kernel
theorem zd_MScene_of_0 : decode zb_MScene_of 0 = .ok (.iload_n 1, 1) := by decide +kernel
theorem zd_MScene_of_1 : decode zb_MScene_of 1 = .ok (.ifCond .ne 10, 3) := by decide +kernel
theorem zd_MScene_of_4 : decode zb_MScene_of 4 = .ok (.aload_n 0, 1) := by decide +kernel
theorem zd_MScene_of_5 : decode zb_MScene_of 5 = .ok (.getfield 58, 3) := by decide +kernel
theorem zd_MScene_of_8 : decode zb_MScene_of 8 = .ok (.goto 19, 3) := by decide +kernel
theorem zd_MScene_of_11 : decode zb_MScene_of 11 = .ok (.iload_n 1, 1) := by decide +kernel
theorem zd_MScene_of_12 : decode zb_MScene_of 12 = .ok (.iconst 1, 1) := by decide +kernel
theorem zd_MScene_of_13 : decode zb_MScene_of 13 = .ok (.if_icmp .ne 10, 3) := by decide +kernel
theorem zd_MScene_of_16 : decode zb_MScene_of 16 = .ok (.aload_n 0, 1) := by decide +kernel
theorem zd_MScene_of_17 : decode zb_MScene_of 17 = .ok (.getfield 61, 3) := by decide +kernel
theorem zd_MScene_of_20 : decode zb_MScene_of 20 = .ok (.goto 7, 3) := by decide +kernel
theorem zd_MScene_of_23 : decode zb_MScene_of 23 = .ok (.aload_n 0, 1) := by decide +kernel
theorem zd_MScene_of_24 : decode zb_MScene_of 24 = .ok (.getfield 64, 3) := by decide +kernel
theorem zd_MScene_of_27 : decode zb_MScene_of 27 = .ok (.areturn, 1) := by decide +kernel
def F_MScene_of (sh : zSh) (mm : zMem) (o : Nat) (x0_ : Int32) : Option (Nat × zMem) := (if x0_ = 0 then zoS (sh o) 15 (fun le10 => Option.bind (mm.2.2 o 21) (fun a11 => some (a11, mm))) else (if x0_ = 1 then zoS (sh o) 15 (fun le7 => Option.bind (mm.2.2 o 22) (fun a8 => some (a8, mm))) else zoS (sh o) 15 (fun le4 => Option.bind (mm.2.2 o 23) (fun a5 => some (a5, mm)))))
set_option maxHeartbeats 4000000 in
set_option maxRecDepth 100000 in
theorem k_MScene_of (l : Launch) (D : va_G) (tA : Nat → ClassId) (b : Nat) (sh : zSh) (n : Nat) {mm : zMem} {o : Nat} {x0_ : Int32} {r : (Nat × zMem)} (h : F_MScene_of sh mm o x0_ = some r) : zM l D tA b zy_MScene_of zb_MScene_of 2 (some (.array .int)) 0 0 0 0 [.ref (b + o), .int x0_] (zW tA b sh mm) n (zE (some (.ref (b + (r.1)))) (zW tA b sh r.2) n) := by
  unfold F_MScene_of at h
  refine zM_of (own := "OrreryBoxModel$Scene") (plainFor_of_name (by decide)) rfl (Nat.le_of_ble_eq_true rfl) (fun p e s m below meth c F hr hin hH => ?_)
  refine zr_iload_n F zd_MScene_of_0 rfl ?_
  refine zr_if_ne F 11 zd_MScene_of_1 (by decide) (fun hb1 => ?_) (fun hb1 => ?_)
  ·
    rw [if_neg hb1] at h
    refine zr_iload_n F zd_MScene_of_11 rfl ?_
    refine zr_iconstv (v := 1) F zd_MScene_of_12 (by decide) ?_
    refine zr_icmp_ne F 23 zd_MScene_of_13 (by decide) (fun hb2 => ?_) (fun hb2 => ?_)
    ·
      rw [if_neg hb2] at h
      refine zr_aload_n F zd_MScene_of_23 rfl ?_
      obtain ⟨le4, hs3, h⟩ := zoS_s h
      obtain ⟨a5, ea5, h⟩ := zoB_s h
      refine zr_get F 15 23 zd_MScene_of_24 (zW_o hs3 (by decide)) rfl (by decide) zw_1385 rfl (by rfl) ?_
      refine zr_tor ea5 ?_
      refine zr_pcn 27 rfl ?_
      obtain rfl := Option.some.inj h
      exact zr_aret F hr (Or.inr ⟨_, rfl⟩) (Or.inr ⟨_, rfl⟩) zd_MScene_of_27 (Nat.le_of_ble_eq_true rfl) (Nat.le_of_ble_eq_true rfl) ⟨rfl, rfl, rfl⟩
    ·
      rw [if_pos hb2] at h
      refine zr_aload_n F zd_MScene_of_16 rfl ?_
      obtain ⟨le7, hs6, h⟩ := zoS_s h
      obtain ⟨a8, ea8, h⟩ := zoB_s h
      refine zr_get F 15 22 zd_MScene_of_17 (zW_o hs6 (by decide)) rfl (by decide) zw_1382 rfl (by rfl) ?_
      refine zr_tor ea8 ?_
      refine zr_goto F 27 zd_MScene_of_20 (by decide) ?_
      obtain rfl := Option.some.inj h
      exact zr_aret F hr (Or.inr ⟨_, rfl⟩) (Or.inr ⟨_, rfl⟩) zd_MScene_of_27 (Nat.le_of_ble_eq_true rfl) (Nat.le_of_ble_eq_true rfl) ⟨rfl, rfl, rfl⟩
  ·
    rw [if_pos hb1] at h
    refine zr_aload_n F zd_MScene_of_4 rfl ?_
    obtain ⟨le10, hs9, h⟩ := zoS_s h
    obtain ⟨a11, ea11, h⟩ := zoB_s h
    refine zr_get F 15 21 zd_MScene_of_5 (zW_o hs9 (by decide)) rfl (by decide) zw_1379 rfl (by rfl) ?_
    refine zr_tor ea11 ?_
    refine zr_goto F 27 zd_MScene_of_8 (by decide) ?_
    refine zr_pcn 27 rfl ?_
    obtain rfl := Option.some.inj h
    exact zr_aret F hr (Or.inr ⟨_, rfl⟩) (Or.inr ⟨_, rfl⟩) zd_MScene_of_27 (Nat.le_of_ble_eq_true rfl) (Nat.le_of_ble_eq_true rfl) ⟨rfl, rfl, rfl⟩
abbrev zb_MScene_levelAt : ByteArray := prog_18_method_6_code
def zy_MScene_levelAt : MethodName := ⟨"OrreryBoxModel$Scene", "levelAt", "(II)I"⟩
theorem zc_MScene_levelAt : Cond.code zy_MScene_levelAt zb_MScene_levelAt 6 (some .int) ∈ gw := gw_t 1914 (by decide +kernel) rfl
theorem zq_MScene_levelAt : zy_MScene_levelAt.cls ≠ "java/lang/invoke/MethodHandle" ∧ zy_MScene_levelAt.cls ≠ "java/lang/invoke/VarHandle" ∧ (parseMethodDescriptor zy_MScene_levelAt.desc).map (fun d => d.parameters.length) = some 2 := by decide +kernel
theorem zd_MScene_levelAt_0 : decode zb_MScene_levelAt 0 = .ok (.sipush 4095, 3) := by decide +kernel
theorem zd_MScene_levelAt_3 : decode zb_MScene_levelAt 3 = .ok (.iload_n 1, 1) := by decide +kernel
theorem zd_MScene_levelAt_4 : decode zb_MScene_levelAt 4 = .ok (.imul, 1) := by decide +kernel
theorem zd_MScene_levelAt_5 : decode zb_MScene_levelAt 5 = .ok (.istore_n 3, 1) := by decide +kernel
theorem zd_MScene_levelAt_6 : decode zb_MScene_levelAt 6 = .ok (.iconst 0, 1) := by decide +kernel
theorem zd_MScene_levelAt_7 : decode zb_MScene_levelAt 7 = .ok (.istore 4, 2) := by decide +kernel
theorem zd_MScene_levelAt_9 : decode zb_MScene_levelAt 9 = .ok (.aload_n 0, 1) := by decide +kernel
theorem zd_MScene_levelAt_10 : decode zb_MScene_levelAt 10 = .ok (.getfield 7, 3) := by decide +kernel
theorem zd_MScene_levelAt_13 : decode zb_MScene_levelAt 13 = .ok (.iload_n 1, 1) := by decide +kernel
theorem zd_MScene_levelAt_14 : decode zb_MScene_levelAt 14 = .ok (.iaload, 1) := by decide +kernel
theorem zd_MScene_levelAt_15 : decode zb_MScene_levelAt 15 = .ok (.istore 5, 2) := by decide +kernel
theorem zd_MScene_levelAt_17 : decode zb_MScene_levelAt 17 = .ok (.iload 4, 2) := by decide +kernel
theorem zd_MScene_levelAt_19 : decode zb_MScene_levelAt 19 = .ok (.iload_n 2, 1) := by decide +kernel
theorem zd_MScene_levelAt_20 : decode zb_MScene_levelAt 20 = .ok (.if_icmp .ge 25, 3) := by decide +kernel
theorem zd_MScene_levelAt_23 : decode zb_MScene_levelAt 23 = .ok (.iload_n 3, 1) := by decide +kernel
theorem zd_MScene_levelAt_24 : decode zb_MScene_levelAt 24 = .ok (.iconst 3, 1) := by decide +kernel
theorem zd_MScene_levelAt_25 : decode zb_MScene_levelAt 25 = .ok (.iload 5, 2) := by decide +kernel
theorem zd_MScene_levelAt_27 : decode zb_MScene_levelAt 27 = .ok (.imul, 1) := by decide +kernel
theorem zd_MScene_levelAt_28 : decode zb_MScene_levelAt 28 = .ok (.iload 5, 2) := by decide +kernel
theorem zd_MScene_levelAt_30 : decode zb_MScene_levelAt 30 = .ok (.imul, 1) := by decide +kernel
theorem zd_MScene_levelAt_31 : decode zb_MScene_levelAt 31 = .ok (.iadd, 1) := by decide +kernel
theorem zd_MScene_levelAt_32 : decode zb_MScene_levelAt 32 = .ok (.istore_n 3, 1) := by decide +kernel
theorem zd_MScene_levelAt_33 : decode zb_MScene_levelAt 33 = .ok (.iinc 4 1, 3) := by decide +kernel
theorem zd_MScene_levelAt_36 : decode zb_MScene_levelAt 36 = .ok (.iload 5, 2) := by decide +kernel
theorem zd_MScene_levelAt_38 : decode zb_MScene_levelAt 38 = .ok (.iconst 2, 1) := by decide +kernel
theorem zd_MScene_levelAt_39 : decode zb_MScene_levelAt 39 = .ok (.idiv, 1) := by decide +kernel
theorem zd_MScene_levelAt_40 : decode zb_MScene_levelAt 40 = .ok (.istore 5, 2) := by decide +kernel
theorem zd_MScene_levelAt_42 : decode zb_MScene_levelAt 42 = .ok (.goto (-25), 3) := by decide +kernel
theorem zd_MScene_levelAt_45 : decode zb_MScene_levelAt 45 = .ok (.iload_n 3, 1) := by decide +kernel
theorem zd_MScene_levelAt_46 : decode zb_MScene_levelAt 46 = .ok (.ireturn, 1) := by decide +kernel
def L_MScene_levelAt_17 (sh : zSh) (fuel : Nat) (v2 : Int32) (v3 : Int32) (v4 : Int32) (v5 : Int32) (mm : zMem) : Option (Int32 × Int32 × Int32 × Int32 × zMem) := match fuel with
  | 0 => none
  | fu + 1 => (if v2 ≤ v4 then some (v2, v3, v4, v5, mm) else zoL (v3 + ((3 * v5) * v5)) (fun x10 => zoL (v5 / 2) (fun x11 => L_MScene_levelAt_17 sh fu v2 x10 (v4 + 1) x11 mm)))
set_option maxHeartbeats 4000000 in
set_option maxRecDepth 100000 in
theorem lp_MScene_levelAt_17 {p : Program} {l : Launch} {e : Env} {s : State} {m : MethodId} {args : Array Value} {below : List Frame} {meth : Method} {c : Code} {D : va_G} {tA : Nat → ClassId} {b n : Nat} {post : Option Value → zV → Nat → Prop} {sh : zSh} (F : zF p s m args meth c zb_MScene_levelAt 6 "OrreryBoxModel$Scene" D tA b) : ∀ (fuel : Nat) (v2 : Int32) (v3 : Int32) (v4 : Int32) (v5 : Int32) (mm : zMem) (r : Int32 × Int32 × Int32 × Int32 × zMem), L_MScene_levelAt_17 sh fuel v2 v3 v4 v5 mm = some r → (Z p l e { frames := 0, cells := 0, slots := 0, locals := 0 } s m args below meth c D b 6 (MQ below (zQ D b post) args s 0 0 (fun q => b ≤ q)) (zW tA b sh r.2.2.2.2) n 0 0 45 [(2, .int (r.1)), (3, .int (r.2.1)), (4, .int (r.2.2.1)), (5, .int (r.2.2.2.1))] []) → Z p l e { frames := 0, cells := 0, slots := 0, locals := 0 } s m args below meth c D b 6 (MQ below (zQ D b post) args s 0 0 (fun q => b ≤ q)) (zW tA b sh mm) n 0 0 17 [(2, .int v2), (3, .int v3), (4, .int v4), (5, .int v5)] [] := by
  intro fuel
  induction fuel with
  | zero =>
    intro v2 v3 v4 v5 mm r h
    cases h
  | succ fu ih =>
    intro v2 v3 v4 v5 mm r h hx0
    rw [L_MScene_levelAt_17] at h
    refine zr_iload F zd_MScene_levelAt_17 rfl ?_
    refine zr_iload_n F zd_MScene_levelAt_19 rfl ?_
    refine zr_icmp_ge F 45 zd_MScene_levelAt_20 (by decide) (fun hb9 => ?_) (fun hb9 => ?_)
    ·
      rw [if_pos hb9] at h
      obtain rfl := Option.some.inj h
      refine zr_loc (L' := [(2, .int v2), (3, .int v3), (4, .int v4), (5, .int v5)]) ⟨rfl, rfl, rfl, rfl, trivial⟩ ?_
      exact hx0 
    ·
      rw [if_neg hb9] at h
      refine zr_iload_n F zd_MScene_levelAt_23 rfl ?_
      refine zr_pcn 24 rfl ?_
      refine zr_iconstv (v := 3) F zd_MScene_levelAt_24 (by decide) ?_
      refine zr_iload F zd_MScene_levelAt_25 rfl ?_
      refine zr_imul F zd_MScene_levelAt_27 ?_
      refine zr_iload F zd_MScene_levelAt_28 rfl ?_
      refine zr_imul F zd_MScene_levelAt_30 ?_
      refine zr_iadd F zd_MScene_levelAt_31 ?_
      obtain ⟨x10, ex10, h⟩ := zoL_s h
      rw [← ex10]
      refine zr_istore_n F zd_MScene_levelAt_32 (by decide) ?_
      refine zr_iinc (v := (v4 + 1)) F zd_MScene_levelAt_33 rfl rfl (by decide) ?_
      refine zr_pcn 36 rfl ?_
      refine zr_iload F zd_MScene_levelAt_36 rfl ?_
      refine zr_iconstv (v := 2) F zd_MScene_levelAt_38 (by decide) ?_
      refine zr_idiv F zd_MScene_levelAt_39 (by decide) ?_
      obtain ⟨x11, ex11, h⟩ := zoL_s h
      rw [← ex11]
      refine zr_istore F zd_MScene_levelAt_40 (by decide) ?_
      refine zr_goto F 17 zd_MScene_levelAt_42 (by decide) ?_
      refine zr_loc (L' := [(2, .int v2), (3, .int x10), (4, .int (v4 + 1)), (5, .int x11)]) ⟨rfl, rfl, rfl, rfl, trivial⟩ ?_
      exact ih _ _ _ _ _ _ h hx0
def F_MScene_levelAt (sh : zSh) (mm : zMem) (o : Nat) (x0_ : Int32) (x1_ : Int32) : Option (Int32 × zMem) := zoL (4095 * x0_) (fun x1 => zoS (sh o) 15 (fun le3 => Option.bind (mm.2.2 o 5) (fun a4 => zoS (sh a4) 100 (fun le6 => if (x0_ : Int32) < 0 ∨ le6 ≤ (x0_ : Int32).toNatClampNeg then none else zoL (mm.1 a4 (x0_ : Int32).toNatClampNeg) (fun x8 => Option.bind (L_MScene_levelAt_17 sh zfuel x1_ x1 0 x8 mm) (fun q12 => some (q12.2.1, q12.2.2.2.2)))))))
set_option maxHeartbeats 4000000 in
set_option maxRecDepth 100000 in
theorem k_MScene_levelAt (l : Launch) (D : va_G) (tA : Nat → ClassId) (b : Nat) (sh : zSh) (n : Nat) {mm : zMem} {o : Nat} {x0_ : Int32} {x1_ : Int32} {r : (Int32 × zMem)} (h : F_MScene_levelAt sh mm o x0_ x1_ = some r) : zM l D tA b zy_MScene_levelAt zb_MScene_levelAt 6 (some .int) 0 0 0 0 [.ref (b + o), .int x0_, .int x1_] (zW tA b sh mm) n (zE (some (.int (r.1))) (zW tA b sh r.2) n) := by
  unfold F_MScene_levelAt at h
  refine zM_of (own := "OrreryBoxModel$Scene") (plainFor_of_name (by decide)) rfl (Nat.le_of_ble_eq_true rfl) (fun p e s m below meth c F hr hin hH => ?_)
  refine zr_sipushv (v := 4095) F zd_MScene_levelAt_0 (by decide) ?_
  refine zr_iload_n F zd_MScene_levelAt_3 rfl ?_
  refine zr_imul F zd_MScene_levelAt_4 ?_
  obtain ⟨x1, ex1, h⟩ := zoL_s h
  rw [← ex1]
  refine zr_istore_n F zd_MScene_levelAt_5 (by decide) ?_
  refine zr_iconstv (v := 0) F zd_MScene_levelAt_6 (by decide) ?_
  refine zr_istore F zd_MScene_levelAt_7 (by decide) ?_
  refine zr_aload_n F zd_MScene_levelAt_9 rfl ?_
  refine zr_pcn 10 rfl ?_
  obtain ⟨le3, hs2, h⟩ := zoS_s h
  obtain ⟨a4, ea4, h⟩ := zoB_s h
  refine zr_get F 15 5 zd_MScene_levelAt_10 (zW_o hs2 (by decide)) rfl (by decide) zw_1331 rfl (by rfl) ?_
  refine zr_tor ea4 ?_
  refine zr_iload_n F zd_MScene_levelAt_13 rfl ?_
  obtain ⟨le6, hs5, h⟩ := zoS_s h
  obtain ⟨hi7, h⟩ := zoI_s h
  refine zr_iald F zd_MScene_levelAt_14 (zW_a0 hs5) hi7 ?_
  obtain ⟨x8, ex8, h⟩ := zoL_s h
  rw [← ex8]
  refine zr_istore F zd_MScene_levelAt_15 (by decide) ?_
  obtain ⟨q12, eq12, h⟩ := zoB_s h
  refine zr_loc (L' := [(2, .int x1_), (3, .int x1), (4, .int 0), (5, .int x8)]) ⟨rfl, rfl, rfl, rfl, trivial⟩ ?_
  refine lp_MScene_levelAt_17 F _ _ _ _ _ _ _ eq12 ?_
  ·
    refine zr_iload_n F zd_MScene_levelAt_45 rfl ?_
    obtain rfl := Option.some.inj h
    exact zr_iret F hr zd_MScene_levelAt_46 (Nat.le_of_ble_eq_true rfl) (Nat.le_of_ble_eq_true rfl) ⟨rfl, rfl, rfl⟩
abbrev zb_MScene_makeLevels : ByteArray := prog_18_method_7_code
def zy_MScene_makeLevels : MethodName := ⟨"OrreryBoxModel$Scene", "makeLevels", "()V"⟩
theorem zc_MScene_makeLevels : Cond.code zy_MScene_makeLevels zb_MScene_makeLevels 12 none ∈ gw := gw_t 1910 (by decide +kernel) rfl
theorem zq_MScene_makeLevels : zy_MScene_makeLevels.cls ≠ "java/lang/invoke/MethodHandle" ∧ zy_MScene_makeLevels.cls ≠ "java/lang/invoke/VarHandle" ∧ (parseMethodDescriptor zy_MScene_makeLevels.desc).map (fun d => d.parameters.length) = some 0 := by decide +kernel
theorem zd_MScene_makeLevels_0 : decode zb_MScene_makeLevels 0 = .ok (.iconst 0, 1) := by decide +kernel
theorem zd_MScene_makeLevels_1 : decode zb_MScene_makeLevels 1 = .ok (.istore_n 1, 1) := by decide +kernel
theorem zd_MScene_makeLevels_2 : decode zb_MScene_makeLevels 2 = .ok (.iload_n 1, 1) := by decide +kernel
theorem zd_MScene_makeLevels_3 : decode zb_MScene_makeLevels 3 = .ok (.aload_n 0, 1) := by decide +kernel
theorem zd_MScene_makeLevels_4 : decode zb_MScene_makeLevels 4 = .ok (.getfield 98, 3) := by decide +kernel
theorem zd_MScene_makeLevels_7 : decode zb_MScene_makeLevels 7 = .ok (.if_icmp .ge 173, 3) := by decide +kernel
theorem zd_MScene_makeLevels_10 : decode zb_MScene_makeLevels 10 = .ok (.aload_n 0, 1) := by decide +kernel
theorem zd_MScene_makeLevels_11 : decode zb_MScene_makeLevels 11 = .ok (.getfield 7, 3) := by decide +kernel
theorem zd_MScene_makeLevels_14 : decode zb_MScene_makeLevels 14 = .ok (.iload_n 1, 1) := by decide +kernel
theorem zd_MScene_makeLevels_15 : decode zb_MScene_makeLevels 15 = .ok (.iaload, 1) := by decide +kernel
theorem zd_MScene_makeLevels_16 : decode zb_MScene_makeLevels 16 = .ok (.iconst 2, 1) := by decide +kernel
theorem zd_MScene_makeLevels_17 : decode zb_MScene_makeLevels 17 = .ok (.idiv, 1) := by decide +kernel
theorem zd_MScene_makeLevels_18 : decode zb_MScene_makeLevels 18 = .ok (.istore_n 2, 1) := by decide +kernel
theorem zd_MScene_makeLevels_19 : decode zb_MScene_makeLevels 19 = .ok (.iconst 1, 1) := by decide +kernel
theorem zd_MScene_makeLevels_20 : decode zb_MScene_makeLevels 20 = .ok (.istore_n 3, 1) := by decide +kernel
theorem zd_MScene_makeLevels_21 : decode zb_MScene_makeLevels 21 = .ok (.iload_n 2, 1) := by decide +kernel
theorem zd_MScene_makeLevels_22 : decode zb_MScene_makeLevels 22 = .ok (.iconst 1, 1) := by decide +kernel
theorem zd_MScene_makeLevels_23 : decode zb_MScene_makeLevels 23 = .ok (.if_icmp .lt 151, 3) := by decide +kernel
theorem zd_MScene_makeLevels_26 : decode zb_MScene_makeLevels 26 = .ok (.aload_n 0, 1) := by decide +kernel
theorem zd_MScene_makeLevels_27 : decode zb_MScene_makeLevels 27 = .ok (.iload_n 1, 1) := by decide +kernel
theorem zd_MScene_makeLevels_28 : decode zb_MScene_makeLevels 28 = .ok (.iload_n 3, 1) := by decide +kernel
theorem zd_MScene_makeLevels_29 : decode zb_MScene_makeLevels 29 = .ok (.iconst 1, 1) := by decide +kernel
theorem zd_MScene_makeLevels_30 : decode zb_MScene_makeLevels 30 = .ok (.isub, 1) := by decide +kernel
theorem zd_MScene_makeLevels_31 : decode zb_MScene_makeLevels 31 = .ok (.invokevirtual 125, 3) := by decide +kernel
theorem zd_MScene_makeLevels_34 : decode zb_MScene_makeLevels 34 = .ok (.istore 4, 2) := by decide +kernel
theorem zd_MScene_makeLevels_36 : decode zb_MScene_makeLevels 36 = .ok (.aload_n 0, 1) := by decide +kernel
theorem zd_MScene_makeLevels_37 : decode zb_MScene_makeLevels 37 = .ok (.iload_n 1, 1) := by decide +kernel
theorem zd_MScene_makeLevels_38 : decode zb_MScene_makeLevels 38 = .ok (.iload_n 3, 1) := by decide +kernel
theorem zd_MScene_makeLevels_39 : decode zb_MScene_makeLevels 39 = .ok (.invokevirtual 125, 3) := by decide +kernel
theorem zd_MScene_makeLevels_42 : decode zb_MScene_makeLevels 42 = .ok (.istore 5, 2) := by decide +kernel
theorem zd_MScene_makeLevels_44 : decode zb_MScene_makeLevels 44 = .ok (.iconst 0, 1) := by decide +kernel
theorem zd_MScene_makeLevels_45 : decode zb_MScene_makeLevels 45 = .ok (.istore 6, 2) := by decide +kernel
theorem zd_MScene_makeLevels_47 : decode zb_MScene_makeLevels 47 = .ok (.iload 6, 2) := by decide +kernel
theorem zd_MScene_makeLevels_49 : decode zb_MScene_makeLevels 49 = .ok (.iconst 3, 1) := by decide +kernel
theorem zd_MScene_makeLevels_50 : decode zb_MScene_makeLevels 50 = .ok (.iload_n 2, 1) := by decide +kernel
theorem zd_MScene_makeLevels_51 : decode zb_MScene_makeLevels 51 = .ok (.imul, 1) := by decide +kernel
theorem zd_MScene_makeLevels_52 : decode zb_MScene_makeLevels 52 = .ok (.iload_n 2, 1) := by decide +kernel
theorem zd_MScene_makeLevels_53 : decode zb_MScene_makeLevels 53 = .ok (.imul, 1) := by decide +kernel
theorem zd_MScene_makeLevels_54 : decode zb_MScene_makeLevels 54 = .ok (.if_icmp .ge 110, 3) := by decide +kernel
theorem zd_MScene_makeLevels_57 : decode zb_MScene_makeLevels 57 = .ok (.iload 6, 2) := by decide +kernel
theorem zd_MScene_makeLevels_59 : decode zb_MScene_makeLevels 59 = .ok (.iconst 3, 1) := by decide +kernel
theorem zd_MScene_makeLevels_60 : decode zb_MScene_makeLevels 60 = .ok (.irem, 1) := by decide +kernel
theorem zd_MScene_makeLevels_61 : decode zb_MScene_makeLevels 61 = .ok (.istore 7, 2) := by decide +kernel
theorem zd_MScene_makeLevels_63 : decode zb_MScene_makeLevels 63 = .ok (.iload 6, 2) := by decide +kernel
theorem zd_MScene_makeLevels_65 : decode zb_MScene_makeLevels 65 = .ok (.iconst 3, 1) := by decide +kernel
theorem zd_MScene_makeLevels_66 : decode zb_MScene_makeLevels 66 = .ok (.idiv, 1) := by decide +kernel
theorem zd_MScene_makeLevels_67 : decode zb_MScene_makeLevels 67 = .ok (.iload_n 2, 1) := by decide +kernel
theorem zd_MScene_makeLevels_68 : decode zb_MScene_makeLevels 68 = .ok (.irem, 1) := by decide +kernel
theorem zd_MScene_makeLevels_69 : decode zb_MScene_makeLevels 69 = .ok (.istore 8, 2) := by decide +kernel
theorem zd_MScene_makeLevels_71 : decode zb_MScene_makeLevels 71 = .ok (.iload 6, 2) := by decide +kernel
theorem zd_MScene_makeLevels_73 : decode zb_MScene_makeLevels 73 = .ok (.iconst 3, 1) := by decide +kernel
theorem zd_MScene_makeLevels_74 : decode zb_MScene_makeLevels 74 = .ok (.idiv, 1) := by decide +kernel
theorem zd_MScene_makeLevels_75 : decode zb_MScene_makeLevels 75 = .ok (.iload_n 2, 1) := by decide +kernel
theorem zd_MScene_makeLevels_76 : decode zb_MScene_makeLevels 76 = .ok (.idiv, 1) := by decide +kernel
theorem zd_MScene_makeLevels_77 : decode zb_MScene_makeLevels 77 = .ok (.istore 9, 2) := by decide +kernel
theorem zd_MScene_makeLevels_79 : decode zb_MScene_makeLevels 79 = .ok (.iload 4, 2) := by decide +kernel
theorem zd_MScene_makeLevels_81 : decode zb_MScene_makeLevels 81 = .ok (.iconst 3, 1) := by decide +kernel
theorem zd_MScene_makeLevels_82 : decode zb_MScene_makeLevels 82 = .ok (.iconst 2, 1) := by decide +kernel
theorem zd_MScene_makeLevels_83 : decode zb_MScene_makeLevels 83 = .ok (.iload_n 2, 1) := by decide +kernel
theorem zd_MScene_makeLevels_84 : decode zb_MScene_makeLevels 84 = .ok (.imul, 1) := by decide +kernel
theorem zd_MScene_makeLevels_85 : decode zb_MScene_makeLevels 85 = .ok (.iconst 2, 1) := by decide +kernel
theorem zd_MScene_makeLevels_86 : decode zb_MScene_makeLevels 86 = .ok (.imul, 1) := by decide +kernel
theorem zd_MScene_makeLevels_87 : decode zb_MScene_makeLevels 87 = .ok (.iload 9, 2) := by decide +kernel
theorem zd_MScene_makeLevels_89 : decode zb_MScene_makeLevels 89 = .ok (.imul, 1) := by decide +kernel
theorem zd_MScene_makeLevels_90 : decode zb_MScene_makeLevels 90 = .ok (.iconst 2, 1) := by decide +kernel
theorem zd_MScene_makeLevels_91 : decode zb_MScene_makeLevels 91 = .ok (.iload 8, 2) := by decide +kernel
theorem zd_MScene_makeLevels_93 : decode zb_MScene_makeLevels 93 = .ok (.imul, 1) := by decide +kernel
theorem zd_MScene_makeLevels_94 : decode zb_MScene_makeLevels 94 = .ok (.iadd, 1) := by decide +kernel
theorem zd_MScene_makeLevels_95 : decode zb_MScene_makeLevels 95 = .ok (.imul, 1) := by decide +kernel
theorem zd_MScene_makeLevels_96 : decode zb_MScene_makeLevels 96 = .ok (.iadd, 1) := by decide +kernel
theorem zd_MScene_makeLevels_97 : decode zb_MScene_makeLevels 97 = .ok (.iload 7, 2) := by decide +kernel
theorem zd_MScene_makeLevels_99 : decode zb_MScene_makeLevels 99 = .ok (.iadd, 1) := by decide +kernel
theorem zd_MScene_makeLevels_100 : decode zb_MScene_makeLevels 100 = .ok (.istore 10, 2) := by decide +kernel
theorem zd_MScene_makeLevels_102 : decode zb_MScene_makeLevels 102 = .ok (.iload 10, 2) := by decide +kernel
theorem zd_MScene_makeLevels_104 : decode zb_MScene_makeLevels 104 = .ok (.bipush 6, 2) := by decide +kernel
theorem zd_MScene_makeLevels_106 : decode zb_MScene_makeLevels 106 = .ok (.iload_n 2, 1) := by decide +kernel
theorem zd_MScene_makeLevels_107 : decode zb_MScene_makeLevels 107 = .ok (.imul, 1) := by decide +kernel
theorem zd_MScene_makeLevels_108 : decode zb_MScene_makeLevels 108 = .ok (.iadd, 1) := by decide +kernel
theorem zd_MScene_makeLevels_109 : decode zb_MScene_makeLevels 109 = .ok (.istore 11, 2) := by decide +kernel
theorem zd_MScene_makeLevels_111 : decode zb_MScene_makeLevels 111 = .ok (.aload_n 0, 1) := by decide +kernel
theorem zd_MScene_makeLevels_112 : decode zb_MScene_makeLevels 112 = .ok (.getfield 19, 3) := by decide +kernel
theorem zd_MScene_makeLevels_115 : decode zb_MScene_makeLevels 115 = .ok (.iload 5, 2) := by decide +kernel
theorem zd_MScene_makeLevels_117 : decode zb_MScene_makeLevels 117 = .ok (.iload 6, 2) := by decide +kernel
theorem zd_MScene_makeLevels_119 : decode zb_MScene_makeLevels 119 = .ok (.iadd, 1) := by decide +kernel
theorem zd_MScene_makeLevels_120 : decode zb_MScene_makeLevels 120 = .ok (.aload_n 0, 1) := by decide +kernel
theorem zd_MScene_makeLevels_121 : decode zb_MScene_makeLevels 121 = .ok (.getfield 19, 3) := by decide +kernel
theorem zd_MScene_makeLevels_124 : decode zb_MScene_makeLevels 124 = .ok (.iload 10, 2) := by decide +kernel
theorem zd_MScene_makeLevels_126 : decode zb_MScene_makeLevels 126 = .ok (.iaload, 1) := by decide +kernel
theorem zd_MScene_makeLevels_127 : decode zb_MScene_makeLevels 127 = .ok (.aload_n 0, 1) := by decide +kernel
theorem zd_MScene_makeLevels_128 : decode zb_MScene_makeLevels 128 = .ok (.getfield 19, 3) := by decide +kernel
theorem zd_MScene_makeLevels_131 : decode zb_MScene_makeLevels 131 = .ok (.iload 10, 2) := by decide +kernel
theorem zd_MScene_makeLevels_133 : decode zb_MScene_makeLevels 133 = .ok (.iconst 3, 1) := by decide +kernel
theorem zd_MScene_makeLevels_134 : decode zb_MScene_makeLevels 134 = .ok (.iadd, 1) := by decide +kernel
theorem zd_MScene_makeLevels_135 : decode zb_MScene_makeLevels 135 = .ok (.iaload, 1) := by decide +kernel
theorem zd_MScene_makeLevels_136 : decode zb_MScene_makeLevels 136 = .ok (.iadd, 1) := by decide +kernel
theorem zd_MScene_makeLevels_137 : decode zb_MScene_makeLevels 137 = .ok (.aload_n 0, 1) := by decide +kernel
theorem zd_MScene_makeLevels_138 : decode zb_MScene_makeLevels 138 = .ok (.getfield 19, 3) := by decide +kernel
theorem zd_MScene_makeLevels_141 : decode zb_MScene_makeLevels 141 = .ok (.iload 11, 2) := by decide +kernel
theorem zd_MScene_makeLevels_143 : decode zb_MScene_makeLevels 143 = .ok (.iaload, 1) := by decide +kernel
theorem zd_MScene_makeLevels_144 : decode zb_MScene_makeLevels 144 = .ok (.iadd, 1) := by decide +kernel
theorem zd_MScene_makeLevels_145 : decode zb_MScene_makeLevels 145 = .ok (.aload_n 0, 1) := by decide +kernel
theorem zd_MScene_makeLevels_146 : decode zb_MScene_makeLevels 146 = .ok (.getfield 19, 3) := by decide +kernel
theorem zd_MScene_makeLevels_149 : decode zb_MScene_makeLevels 149 = .ok (.iload 11, 2) := by decide +kernel
theorem zd_MScene_makeLevels_151 : decode zb_MScene_makeLevels 151 = .ok (.iconst 3, 1) := by decide +kernel
theorem zd_MScene_makeLevels_152 : decode zb_MScene_makeLevels 152 = .ok (.iadd, 1) := by decide +kernel
theorem zd_MScene_makeLevels_153 : decode zb_MScene_makeLevels 153 = .ok (.iaload, 1) := by decide +kernel
theorem zd_MScene_makeLevels_154 : decode zb_MScene_makeLevels 154 = .ok (.iadd, 1) := by decide +kernel
theorem zd_MScene_makeLevels_155 : decode zb_MScene_makeLevels 155 = .ok (.iconst 4, 1) := by decide +kernel
theorem zd_MScene_makeLevels_156 : decode zb_MScene_makeLevels 156 = .ok (.idiv, 1) := by decide +kernel
theorem zd_MScene_makeLevels_157 : decode zb_MScene_makeLevels 157 = .ok (.iastore, 1) := by decide +kernel
theorem zd_MScene_makeLevels_158 : decode zb_MScene_makeLevels 158 = .ok (.iinc 6 1, 3) := by decide +kernel
theorem zd_MScene_makeLevels_161 : decode zb_MScene_makeLevels 161 = .ok (.goto (-114), 3) := by decide +kernel
theorem zd_MScene_makeLevels_164 : decode zb_MScene_makeLevels 164 = .ok (.iload_n 2, 1) := by decide +kernel
theorem zd_MScene_makeLevels_165 : decode zb_MScene_makeLevels 165 = .ok (.iconst 2, 1) := by decide +kernel
theorem zd_MScene_makeLevels_166 : decode zb_MScene_makeLevels 166 = .ok (.idiv, 1) := by decide +kernel
theorem zd_MScene_makeLevels_167 : decode zb_MScene_makeLevels 167 = .ok (.istore_n 2, 1) := by decide +kernel
theorem zd_MScene_makeLevels_168 : decode zb_MScene_makeLevels 168 = .ok (.iinc 3 1, 3) := by decide +kernel
theorem zd_MScene_makeLevels_171 : decode zb_MScene_makeLevels 171 = .ok (.goto (-150), 3) := by decide +kernel
theorem zd_MScene_makeLevels_174 : decode zb_MScene_makeLevels 174 = .ok (.iinc 1 1, 3) := by decide +kernel
theorem zd_MScene_makeLevels_177 : decode zb_MScene_makeLevels 177 = .ok (.goto (-175), 3) := by decide +kernel
theorem zd_MScene_makeLevels_180 : decode zb_MScene_makeLevels 180 = .ok (.return_, 1) := by decide +kernel
theorem zw_1911 : (Jvm.Cond.methodLink "OrreryBoxModel$Scene" (125 : Nat) ({ cls := "OrreryBoxModel$Scene", name := "levelAt", desc := "(II)I" } : Jvm.MethodName)) ∈ gw := gw_t 1911 (by decide +kernel) rfl
theorem zw_1912 : (Jvm.Cond.instanceMethod ({ cls := "OrreryBoxModel$Scene", name := "levelAt", desc := "(II)I" } : Jvm.MethodName)) ∈ gw := gw_t 1912 (by decide +kernel) rfl
theorem zw_1913 : (Jvm.Cond.selects "OrreryBoxModel$Scene" ({ cls := "OrreryBoxModel$Scene", name := "levelAt", desc := "(II)I" } : Jvm.MethodName) ({ cls := "OrreryBoxModel$Scene", name := "levelAt", desc := "(II)I" } : Jvm.MethodName)) ∈ gw := gw_t 1913 (by decide +kernel) rfl
theorem zs_MScene_125 : zwV "OrreryBoxModel$Scene" 125 "OrreryBoxModel$Scene" zy_MScene_levelAt zb_MScene_levelAt 6 (some .int) := ⟨zw_1911, zw_1912, zw_1913, zw_14, zc_MScene_levelAt⟩
def L_MScene_makeLevels_47 (sh : zSh) (fuel : Nat) (v0 : Nat) (v1 : Int32) (v2 : Int32) (v3 : Int32) (v4 : Int32) (v5 : Int32) (v6 : Int32) (mm : zMem) : Option (Nat × Int32 × Int32 × Int32 × Int32 × Int32 × Int32 × zMem) := match fuel with
  | 0 => none
  | fu + 1 => (if ((3 * v2) * v2) ≤ v6 then some (v0, v1, v2, v3, v4, v5, v6, mm) else zoL (v6 - v6 / 3 * 3) (fun x19 => (if v2 = 0 then none else zoL ((v6 / 3) - (v6 / 3) / v2 * v2) (fun x21 => (if v2 = 0 then none else zoL ((v6 / 3) / v2) (fun x23 => zoL ((v4 + (3 * ((((2 * v2) * 2) * x23) + (2 * x21)))) + x19) (fun x24 => zoL (x24 + (6 * v2)) (fun x25 => zoS (sh v0) 15 (fun le27 => Option.bind (mm.2.2 v0 8) (fun a28 => zoS (sh v0) 15 (fun le30 => Option.bind (mm.2.2 v0 8) (fun a31 => zoS (sh a31) 100 (fun le33 => if (x24 : Int32) < 0 ∨ le33 ≤ (x24 : Int32).toNatClampNeg then none else zoS (sh v0) 15 (fun le36 => Option.bind (mm.2.2 v0 8) (fun a37 => zoL (x24 + 3) (fun i38 => zoS (sh a37) 100 (fun le40 => if (i38 : Int32) < 0 ∨ le40 ≤ (i38 : Int32).toNatClampNeg then none else zoS (sh v0) 15 (fun le43 => Option.bind (mm.2.2 v0 8) (fun a44 => zoS (sh a44) 100 (fun le46 => if (x25 : Int32) < 0 ∨ le46 ≤ (x25 : Int32).toNatClampNeg then none else zoS (sh v0) 15 (fun le49 => Option.bind (mm.2.2 v0 8) (fun a50 => zoL (x25 + 3) (fun i51 => zoS (sh a50) 100 (fun le53 => if (i51 : Int32) < 0 ∨ le53 ≤ (i51 : Int32).toNatClampNeg then none else zoL (((((mm.1 a31 (x24 : Int32).toNatClampNeg) + (mm.1 a37 (i38 : Int32).toNatClampNeg)) + (mm.1 a44 (x25 : Int32).toNatClampNeg)) + (mm.1 a50 (i51 : Int32).toNatClampNeg)) / 4) (fun x55 => zoL (v5 + v6) (fun i56 => zoS (sh a28) 100 (fun le58 => if (i56 : Int32) < 0 ∨ le58 ≤ (i56 : Int32).toNatClampNeg then none else zoL (mI mm a28 (i56 : Int32).toNatClampNeg x55) (fun mm60 => L_MScene_makeLevels_47 sh fu v0 v1 v2 v3 v4 v5 (v6 + 1) mm60))))))))))))))))))))))))))))
set_option maxHeartbeats 4000000 in
set_option maxRecDepth 100000 in
theorem lp_MScene_makeLevels_47 {p : Program} {l : Launch} {e : Env} {s : State} {m : MethodId} {args : Array Value} {below : List Frame} {meth : Method} {c : Code} {D : va_G} {tA : Nat → ClassId} {b n : Nat} {post : Option Value → zV → Nat → Prop} {sh : zSh} (F : zF p s m args meth c zb_MScene_makeLevels 12 "OrreryBoxModel$Scene" D tA b) : ∀ (fuel : Nat) (v0 : Nat) (v1 : Int32) (v2 : Int32) (v3 : Int32) (v4 : Int32) (v5 : Int32) (v6 : Int32) (mm : zMem) (r : Nat × Int32 × Int32 × Int32 × Int32 × Int32 × Int32 × zMem), L_MScene_makeLevels_47 sh fuel v0 v1 v2 v3 v4 v5 v6 mm = some r → (Z p l e { frames := 1, cells := 0, slots := 0, locals := 25 } s m args below meth c D b 12 (MQ below (zQ D b post) args s 0 0 (fun q => b ≤ q)) (zW tA b sh r.2.2.2.2.2.2.2) n 0 0 164 [(0, .ref (b + (r.1))), (1, .int (r.2.1)), (2, .int (r.2.2.1)), (3, .int (r.2.2.2.1)), (4, .int (r.2.2.2.2.1)), (5, .int (r.2.2.2.2.2.1)), (6, .int (r.2.2.2.2.2.2.1))] []) → Z p l e { frames := 1, cells := 0, slots := 0, locals := 25 } s m args below meth c D b 12 (MQ below (zQ D b post) args s 0 0 (fun q => b ≤ q)) (zW tA b sh mm) n 0 0 47 [(0, .ref (b + v0)), (1, .int v1), (2, .int v2), (3, .int v3), (4, .int v4), (5, .int v5), (6, .int v6)] [] := by
  intro fuel
  induction fuel with
  | zero =>
    intro v0 v1 v2 v3 v4 v5 v6 mm r h
    cases h
  | succ fu ih =>
    intro v0 v1 v2 v3 v4 v5 v6 mm r h hx0
    rw [L_MScene_makeLevels_47] at h
    refine zr_iload F zd_MScene_makeLevels_47 rfl ?_
    refine zr_iconstv (v := 3) F zd_MScene_makeLevels_49 (by decide) ?_
    refine zr_iload_n F zd_MScene_makeLevels_50 rfl ?_
    refine zr_imul F zd_MScene_makeLevels_51 ?_
    refine zr_iload_n F zd_MScene_makeLevels_52 rfl ?_
    refine zr_imul F zd_MScene_makeLevels_53 ?_
    refine zr_icmp_ge F 164 zd_MScene_makeLevels_54 (by decide) (fun hb18 => ?_) (fun hb18 => ?_)
    ·
      rw [if_pos hb18] at h
      obtain rfl := Option.some.inj h
      refine zr_loc (L' := [(0, .ref (b + v0)), (1, .int v1), (2, .int v2), (3, .int v3), (4, .int v4), (5, .int v5), (6, .int v6)]) ⟨rfl, rfl, rfl, rfl, rfl, rfl, rfl, trivial⟩ ?_
      exact hx0 
    ·
      rw [if_neg hb18] at h
      refine zr_pcn 57 rfl ?_
      refine zr_iload F zd_MScene_makeLevels_57 rfl ?_
      refine zr_iconstv (v := 3) F zd_MScene_makeLevels_59 (by decide) ?_
      refine zr_irem F zd_MScene_makeLevels_60 (by decide) ?_
      obtain ⟨x19, ex19, h⟩ := zoL_s h
      rw [← ex19]
      refine zr_istore F zd_MScene_makeLevels_61 (by decide) ?_
      refine zr_iload F zd_MScene_makeLevels_63 rfl ?_
      refine zr_iconstv (v := 3) F zd_MScene_makeLevels_65 (by decide) ?_
      refine zr_idiv F zd_MScene_makeLevels_66 (by decide) ?_
      refine zr_iload_n F zd_MScene_makeLevels_67 rfl ?_
      refine zr_pcn 68 rfl ?_
      obtain ⟨hn20, h⟩ := zoI_s h
      refine zr_irem F zd_MScene_makeLevels_68 hn20 ?_
      obtain ⟨x21, ex21, h⟩ := zoL_s h
      rw [← ex21]
      refine zr_istore F zd_MScene_makeLevels_69 (by decide) ?_
      refine zr_iload F zd_MScene_makeLevels_71 rfl ?_
      refine zr_iconstv (v := 3) F zd_MScene_makeLevels_73 (by decide) ?_
      refine zr_idiv F zd_MScene_makeLevels_74 (by decide) ?_
      refine zr_iload_n F zd_MScene_makeLevels_75 rfl ?_
      obtain ⟨hn22, h⟩ := zoI_s h
      refine zr_idiv F zd_MScene_makeLevels_76 hn22 ?_
      obtain ⟨x23, ex23, h⟩ := zoL_s h
      rw [← ex23]
      refine zr_istore F zd_MScene_makeLevels_77 (by decide) ?_
      refine zr_pcn 79 rfl ?_
      refine zr_iload F zd_MScene_makeLevels_79 rfl ?_
      refine zr_iconstv (v := 3) F zd_MScene_makeLevels_81 (by decide) ?_
      refine zr_iconstv (v := 2) F zd_MScene_makeLevels_82 (by decide) ?_
      refine zr_iload_n F zd_MScene_makeLevels_83 rfl ?_
      refine zr_imul F zd_MScene_makeLevels_84 ?_
      refine zr_iconstv (v := 2) F zd_MScene_makeLevels_85 (by decide) ?_
      refine zr_imul F zd_MScene_makeLevels_86 ?_
      refine zr_iload F zd_MScene_makeLevels_87 rfl ?_
      refine zr_pcn 89 rfl ?_
      refine zr_imul F zd_MScene_makeLevels_89 ?_
      refine zr_iconstv (v := 2) F zd_MScene_makeLevels_90 (by decide) ?_
      refine zr_iload F zd_MScene_makeLevels_91 rfl ?_
      refine zr_imul F zd_MScene_makeLevels_93 ?_
      refine zr_iadd F zd_MScene_makeLevels_94 ?_
      refine zr_imul F zd_MScene_makeLevels_95 ?_
      refine zr_iadd F zd_MScene_makeLevels_96 ?_
      refine zr_iload F zd_MScene_makeLevels_97 rfl ?_
      refine zr_pcn 99 rfl ?_
      refine zr_iadd F zd_MScene_makeLevels_99 ?_
      obtain ⟨x24, ex24, h⟩ := zoL_s h
      rw [← ex24]
      refine zr_istore F zd_MScene_makeLevels_100 (by decide) ?_
      refine zr_iload F zd_MScene_makeLevels_102 rfl ?_
      refine zr_bipushv (v := 6) F zd_MScene_makeLevels_104 (by decide) ?_
      refine zr_iload_n F zd_MScene_makeLevels_106 rfl ?_
      refine zr_imul F zd_MScene_makeLevels_107 ?_
      refine zr_iadd F zd_MScene_makeLevels_108 ?_
      obtain ⟨x25, ex25, h⟩ := zoL_s h
      rw [← ex25]
      refine zr_istore F zd_MScene_makeLevels_109 (by decide) ?_
      refine zr_pcn 111 rfl ?_
      refine zr_aload_n F zd_MScene_makeLevels_111 rfl ?_
      obtain ⟨le27, hs26, h⟩ := zoS_s h
      obtain ⟨a28, ea28, h⟩ := zoB_s h
      refine zr_get F 15 8 zd_MScene_makeLevels_112 (zW_o hs26 (by decide)) rfl (by decide) zw_1340 rfl (by rfl) ?_
      refine zr_tor ea28 ?_
      refine zr_iload F zd_MScene_makeLevels_115 rfl ?_
      refine zr_iload F zd_MScene_makeLevels_117 rfl ?_
      refine zr_iadd F zd_MScene_makeLevels_119 ?_
      refine zr_aload_n F zd_MScene_makeLevels_120 rfl ?_
      obtain ⟨le30, hs29, h⟩ := zoS_s h
      obtain ⟨a31, ea31, h⟩ := zoB_s h
      refine zr_get F 15 8 zd_MScene_makeLevels_121 (zW_o hs29 (by decide)) rfl (by decide) zw_1340 rfl (by rfl) ?_
      refine zr_tor ea31 ?_
      refine zr_iload F zd_MScene_makeLevels_124 rfl ?_
      refine zr_pcn 126 rfl ?_
      obtain ⟨le33, hs32, h⟩ := zoS_s h
      obtain ⟨hi34, h⟩ := zoI_s h
      refine zr_iald F zd_MScene_makeLevels_126 (zW_a0 hs32) hi34 ?_
      refine zr_aload_n F zd_MScene_makeLevels_127 rfl ?_
      obtain ⟨le36, hs35, h⟩ := zoS_s h
      obtain ⟨a37, ea37, h⟩ := zoB_s h
      refine zr_get F 15 8 zd_MScene_makeLevels_128 (zW_o hs35 (by decide)) rfl (by decide) zw_1340 rfl (by rfl) ?_
      refine zr_tor ea37 ?_
      refine zr_iload F zd_MScene_makeLevels_131 rfl ?_
      refine zr_iconstv (v := 3) F zd_MScene_makeLevels_133 (by decide) ?_
      refine zr_iadd F zd_MScene_makeLevels_134 ?_
      obtain ⟨i38, ei38, h⟩ := zoL_s h
      rw [← ei38]
      obtain ⟨le40, hs39, h⟩ := zoS_s h
      obtain ⟨hi41, h⟩ := zoI_s h
      refine zr_iald F zd_MScene_makeLevels_135 (zW_a0 hs39) hi41 ?_
      refine zr_iadd F zd_MScene_makeLevels_136 ?_
      refine zr_pcn 137 rfl ?_
      refine zr_aload_n F zd_MScene_makeLevels_137 rfl ?_
      obtain ⟨le43, hs42, h⟩ := zoS_s h
      obtain ⟨a44, ea44, h⟩ := zoB_s h
      refine zr_get F 15 8 zd_MScene_makeLevels_138 (zW_o hs42 (by decide)) rfl (by decide) zw_1340 rfl (by rfl) ?_
      refine zr_tor ea44 ?_
      refine zr_iload F zd_MScene_makeLevels_141 rfl ?_
      obtain ⟨le46, hs45, h⟩ := zoS_s h
      obtain ⟨hi47, h⟩ := zoI_s h
      refine zr_iald F zd_MScene_makeLevels_143 (zW_a0 hs45) hi47 ?_
      refine zr_iadd F zd_MScene_makeLevels_144 ?_
      refine zr_aload_n F zd_MScene_makeLevels_145 rfl ?_
      obtain ⟨le49, hs48, h⟩ := zoS_s h
      obtain ⟨a50, ea50, h⟩ := zoB_s h
      refine zr_get F 15 8 zd_MScene_makeLevels_146 (zW_o hs48 (by decide)) rfl (by decide) zw_1340 rfl (by rfl) ?_
      refine zr_tor ea50 ?_
      refine zr_iload F zd_MScene_makeLevels_149 rfl ?_
      refine zr_pcn 151 rfl ?_
      refine zr_iconstv (v := 3) F zd_MScene_makeLevels_151 (by decide) ?_
      refine zr_iadd F zd_MScene_makeLevels_152 ?_
      obtain ⟨i51, ei51, h⟩ := zoL_s h
      rw [← ei51]
      obtain ⟨le53, hs52, h⟩ := zoS_s h
      obtain ⟨hi54, h⟩ := zoI_s h
      refine zr_iald F zd_MScene_makeLevels_153 (zW_a0 hs52) hi54 ?_
      refine zr_iadd F zd_MScene_makeLevels_154 ?_
      refine zr_iconstv (v := 4) F zd_MScene_makeLevels_155 (by decide) ?_
      refine zr_idiv F zd_MScene_makeLevels_156 (by decide) ?_
      obtain ⟨x55, ex55, h⟩ := zoL_s h
      rw [← ex55]
      obtain ⟨i56, ei56, h⟩ := zoL_s h
      rw [← ei56]
      obtain ⟨le58, hs57, h⟩ := zoS_s h
      obtain ⟨hi59, h⟩ := zoI_s h
      refine zr_iast F zd_MScene_makeLevels_157 (zW_a0 hs57) hi59 ?_
      obtain ⟨mm60, emm60, h⟩ := zoL_s h
      refine zr_norm (zW tA b sh mm60) _ (by rw [emm60]; exact zW_s0 hs57) rfl ?_
      refine zr_iinc (v := (v6 + 1)) F zd_MScene_makeLevels_158 rfl rfl (by decide) ?_
      refine zr_pcn 161 rfl ?_
      refine zr_goto F 47 zd_MScene_makeLevels_161 (by decide) ?_
      refine zr_loc (L' := [(0, .ref (b + v0)), (1, .int v1), (2, .int v2), (3, .int v3), (4, .int v4), (5, .int v5), (6, .int (v6 + 1))]) ⟨rfl, rfl, rfl, rfl, rfl, rfl, rfl, trivial⟩ ?_
      exact ih _ _ _ _ _ _ _ _ _ h hx0
def L_MScene_makeLevels_21 (sh : zSh) (fuel : Nat) (v0 : Nat) (v1 : Int32) (v2 : Int32) (v3 : Int32) (mm : zMem) : Option (Nat × Int32 × Int32 × Int32 × zMem) := match fuel with
  | 0 => none
  | fu + 1 => (if v2 < 1 then some (v0, v1, v2, v3, mm) else zoS (sh v0) 15 (fun le13 => Option.bind (F_MScene_levelAt sh mm v0 v1 (v3 - 1)) (fun p14 => zoS (sh v0) 15 (fun le16 => Option.bind (F_MScene_levelAt sh (p14.2) v0 v1 v3) (fun p17 => Option.bind (L_MScene_makeLevels_47 sh zfuel v0 v1 v2 v3 (p14.1) (p17.1) 0 (p17.2)) (fun q61 => zoL (q61.2.2.1 / 2) (fun x62 => L_MScene_makeLevels_21 sh fu (q61.1) (q61.2.1) x62 (q61.2.2.2.1 + 1) (q61.2.2.2.2.2.2.2))))))))
set_option maxHeartbeats 4000000 in
set_option maxRecDepth 100000 in
theorem lp_MScene_makeLevels_21 {p : Program} {l : Launch} {e : Env} {s : State} {m : MethodId} {args : Array Value} {below : List Frame} {meth : Method} {c : Code} {D : va_G} {tA : Nat → ClassId} {b n : Nat} {post : Option Value → zV → Nat → Prop} {sh : zSh} (F : zF p s m args meth c zb_MScene_makeLevels 12 "OrreryBoxModel$Scene" D tA b) : ∀ (fuel : Nat) (v0 : Nat) (v1 : Int32) (v2 : Int32) (v3 : Int32) (mm : zMem) (r : Nat × Int32 × Int32 × Int32 × zMem), L_MScene_makeLevels_21 sh fuel v0 v1 v2 v3 mm = some r → (Z p l e { frames := 1, cells := 0, slots := 0, locals := 25 } s m args below meth c D b 12 (MQ below (zQ D b post) args s 0 0 (fun q => b ≤ q)) (zW tA b sh r.2.2.2.2) n 0 0 174 [(0, .ref (b + (r.1))), (1, .int (r.2.1)), (2, .int (r.2.2.1)), (3, .int (r.2.2.2.1))] []) → Z p l e { frames := 1, cells := 0, slots := 0, locals := 25 } s m args below meth c D b 12 (MQ below (zQ D b post) args s 0 0 (fun q => b ≤ q)) (zW tA b sh mm) n 0 0 21 [(0, .ref (b + v0)), (1, .int v1), (2, .int v2), (3, .int v3)] [] := by
  intro fuel
  induction fuel with
  | zero =>
    intro v0 v1 v2 v3 mm r h
    cases h
  | succ fu ih =>
    intro v0 v1 v2 v3 mm r h hx0
    rw [L_MScene_makeLevels_21] at h
    refine zr_pcn 21 rfl ?_
    refine zr_iload_n F zd_MScene_makeLevels_21 rfl ?_
    refine zr_iconstv (v := 1) F zd_MScene_makeLevels_22 (by decide) ?_
    refine zr_icmp_lt F 174 zd_MScene_makeLevels_23 (by decide) (fun hb11 => ?_) (fun hb11 => ?_)
    ·
      rw [if_pos hb11] at h
      obtain rfl := Option.some.inj h
      refine zr_loc (L' := [(0, .ref (b + v0)), (1, .int v1), (2, .int v2), (3, .int v3)]) ⟨rfl, rfl, rfl, rfl, trivial⟩ ?_
      exact hx0 
    ·
      rw [if_neg hb11] at h
      refine zr_aload_n F zd_MScene_makeLevels_26 rfl ?_
      refine zr_iload_n F zd_MScene_makeLevels_27 rfl ?_
      refine zr_iload_n F zd_MScene_makeLevels_28 rfl ?_
      refine zr_iconstv (v := 1) F zd_MScene_makeLevels_29 (by decide) ?_
      refine zr_isub F zd_MScene_makeLevels_30 ?_
      refine zr_pcn 31 rfl ?_
      obtain ⟨le13, hs12, h⟩ := zoS_s h
      obtain ⟨p14, ep14, h⟩ := zoB_s h
      refine zr_callV1 F (k_MScene_levelAt l D tA b sh _ ep14) zd_MScene_makeLevels_31 (zW_o hs12 (by decide)) rfl zs_MScene_125 rfl zq_MScene_levelAt rfl rfl ⟨(Nat.le_of_ble_eq_true rfl), (Nat.le_of_ble_eq_true rfl)⟩ (Nat.le_of_ble_eq_true rfl) ⟨(Nat.le_of_ble_eq_true rfl), (Nat.le_of_ble_eq_true rfl)⟩ ?_
      refine zr_istore F zd_MScene_makeLevels_34 (by decide) ?_
      refine zr_aload_n F zd_MScene_makeLevels_36 rfl ?_
      refine zr_iload_n F zd_MScene_makeLevels_37 rfl ?_
      refine zr_iload_n F zd_MScene_makeLevels_38 rfl ?_
      obtain ⟨le16, hs15, h⟩ := zoS_s h
      obtain ⟨p17, ep17, h⟩ := zoB_s h
      refine zr_callV1 F (k_MScene_levelAt l D tA b sh _ ep17) zd_MScene_makeLevels_39 (zW_o hs15 (by decide)) rfl zs_MScene_125 rfl zq_MScene_levelAt rfl rfl ⟨(Nat.le_of_ble_eq_true rfl), (Nat.le_of_ble_eq_true rfl)⟩ (Nat.le_of_ble_eq_true rfl) ⟨(Nat.le_of_ble_eq_true rfl), (Nat.le_of_ble_eq_true rfl)⟩ ?_
      refine zr_istore F zd_MScene_makeLevels_42 (by decide) ?_
      refine zr_iconstv (v := 0) F zd_MScene_makeLevels_44 (by decide) ?_
      refine zr_pcn 45 rfl ?_
      refine zr_istore F zd_MScene_makeLevels_45 (by decide) ?_
      obtain ⟨q61, eq61, h⟩ := zoB_s h
      refine zr_loc (L' := [(0, .ref (b + v0)), (1, .int v1), (2, .int v2), (3, .int v3), (4, .int (p14.1)), (5, .int (p17.1)), (6, .int 0)]) ⟨rfl, rfl, rfl, rfl, rfl, rfl, rfl, trivial⟩ ?_
      refine lp_MScene_makeLevels_47 F _ _ _ _ _ _ _ _ _ _ eq61 ?_
      ·
        refine zr_iload_n F zd_MScene_makeLevels_164 rfl ?_
        refine zr_iconstv (v := 2) F zd_MScene_makeLevels_165 (by decide) ?_
        refine zr_idiv F zd_MScene_makeLevels_166 (by decide) ?_
        obtain ⟨x62, ex62, h⟩ := zoL_s h
        rw [← ex62]
        refine zr_istore_n F zd_MScene_makeLevels_167 (by decide) ?_
        refine zr_iinc (v := (q61.2.2.2.1 + 1)) F zd_MScene_makeLevels_168 rfl rfl (by decide) ?_
        refine zr_goto F 21 zd_MScene_makeLevels_171 (by decide) ?_
        refine zr_loc (L' := [(0, .ref (b + (q61.1))), (1, .int (q61.2.1)), (2, .int x62), (3, .int (q61.2.2.2.1 + 1))]) ⟨rfl, rfl, rfl, rfl, trivial⟩ ?_
        exact ih _ _ _ _ _ _ h hx0
def L_MScene_makeLevels_2 (sh : zSh) (fuel : Nat) (v0 : Nat) (v1 : Int32) (mm : zMem) : Option (Nat × Int32 × zMem) := match fuel with
  | 0 => none
  | fu + 1 => zoS (sh v0) 15 (fun le2 => (if (mm.1 v0 0) ≤ v1 then some (v0, v1, mm) else zoS (sh v0) 15 (fun le5 => Option.bind (mm.2.2 v0 5) (fun a6 => zoS (sh a6) 100 (fun le8 => if (v1 : Int32) < 0 ∨ le8 ≤ (v1 : Int32).toNatClampNeg then none else zoL ((mm.1 a6 (v1 : Int32).toNatClampNeg) / 2) (fun x10 => Option.bind (L_MScene_makeLevels_21 sh zfuel v0 v1 x10 1 mm) (fun q63 => L_MScene_makeLevels_2 sh fu (q63.1) (q63.2.1 + 1) (q63.2.2.2.2))))))))
set_option maxHeartbeats 4000000 in
set_option maxRecDepth 100000 in
theorem lp_MScene_makeLevels_2 {p : Program} {l : Launch} {e : Env} {s : State} {m : MethodId} {args : Array Value} {below : List Frame} {meth : Method} {c : Code} {D : va_G} {tA : Nat → ClassId} {b n : Nat} {post : Option Value → zV → Nat → Prop} {sh : zSh} (F : zF p s m args meth c zb_MScene_makeLevels 12 "OrreryBoxModel$Scene" D tA b) : ∀ (fuel : Nat) (v0 : Nat) (v1 : Int32) (mm : zMem) (r : Nat × Int32 × zMem), L_MScene_makeLevels_2 sh fuel v0 v1 mm = some r → (Z p l e { frames := 1, cells := 0, slots := 0, locals := 25 } s m args below meth c D b 12 (MQ below (zQ D b post) args s 0 0 (fun q => b ≤ q)) (zW tA b sh r.2.2) n 0 0 180 [(0, .ref (b + (r.1))), (1, .int (r.2.1))] []) → Z p l e { frames := 1, cells := 0, slots := 0, locals := 25 } s m args below meth c D b 12 (MQ below (zQ D b post) args s 0 0 (fun q => b ≤ q)) (zW tA b sh mm) n 0 0 2 [(0, .ref (b + v0)), (1, .int v1)] [] := by
  intro fuel
  induction fuel with
  | zero =>
    intro v0 v1 mm r h
    cases h
  | succ fu ih =>
    intro v0 v1 mm r h hx0
    rw [L_MScene_makeLevels_2] at h
    refine zr_iload_n F zd_MScene_makeLevels_2 rfl ?_
    refine zr_aload_n F zd_MScene_makeLevels_3 rfl ?_
    obtain ⟨le2, hs1, h⟩ := zoS_s h
    refine zr_get F 15 0 zd_MScene_makeLevels_4 (zW_o hs1 (by decide)) rfl (by decide) zw_1315 rfl (by rfl) ?_
    refine zr_icmp_ge F 180 zd_MScene_makeLevels_7 (by decide) (fun hb3 => ?_) (fun hb3 => ?_)
    ·
      rw [if_pos hb3] at h
      obtain rfl := Option.some.inj h
      refine zr_loc (L' := [(0, .ref (b + v0)), (1, .int v1)]) ⟨rfl, rfl, trivial⟩ ?_
      exact hx0 
    ·
      rw [if_neg hb3] at h
      refine zr_aload_n F zd_MScene_makeLevels_10 rfl ?_
      refine zr_pcn 11 rfl ?_
      obtain ⟨le5, hs4, h⟩ := zoS_s h
      obtain ⟨a6, ea6, h⟩ := zoB_s h
      refine zr_get F 15 5 zd_MScene_makeLevels_11 (zW_o hs4 (by decide)) rfl (by decide) zw_1331 rfl (by rfl) ?_
      refine zr_tor ea6 ?_
      refine zr_iload_n F zd_MScene_makeLevels_14 rfl ?_
      obtain ⟨le8, hs7, h⟩ := zoS_s h
      obtain ⟨hi9, h⟩ := zoI_s h
      refine zr_iald F zd_MScene_makeLevels_15 (zW_a0 hs7) hi9 ?_
      refine zr_iconstv (v := 2) F zd_MScene_makeLevels_16 (by decide) ?_
      refine zr_idiv F zd_MScene_makeLevels_17 (by decide) ?_
      obtain ⟨x10, ex10, h⟩ := zoL_s h
      rw [← ex10]
      refine zr_istore_n F zd_MScene_makeLevels_18 (by decide) ?_
      refine zr_iconstv (v := 1) F zd_MScene_makeLevels_19 (by decide) ?_
      refine zr_istore_n F zd_MScene_makeLevels_20 (by decide) ?_
      obtain ⟨q63, eq63, h⟩ := zoB_s h
      refine zr_loc (L' := [(0, .ref (b + v0)), (1, .int v1), (2, .int x10), (3, .int 1)]) ⟨rfl, rfl, rfl, rfl, trivial⟩ ?_
      refine lp_MScene_makeLevels_21 F _ _ _ _ _ _ _ eq63 ?_
      ·
        refine zr_iinc (v := (q63.2.1 + 1)) F zd_MScene_makeLevels_174 rfl rfl (by decide) ?_
        refine zr_pcn 177 rfl ?_
        refine zr_goto F 2 zd_MScene_makeLevels_177 (by decide) ?_
        refine zr_loc (L' := [(0, .ref (b + (q63.1))), (1, .int (q63.2.1 + 1))]) ⟨rfl, rfl, trivial⟩ ?_
        exact ih _ _ _ _ h hx0
def F_MScene_makeLevels (sh : zSh) (mm : zMem) (o : Nat) : Option zMem := Option.bind (L_MScene_makeLevels_2 sh zfuel o 0 mm) (fun q64 => some (q64.2.2))
set_option maxHeartbeats 4000000 in
set_option maxRecDepth 100000 in
theorem k_MScene_makeLevels (l : Launch) (D : va_G) (tA : Nat → ClassId) (b : Nat) (sh : zSh) (n : Nat) {mm : zMem} {o : Nat} {r : zMem} (h : F_MScene_makeLevels sh mm o = some r) : zM l D tA b zy_MScene_makeLevels zb_MScene_makeLevels 12 none 1 25 0 0 [.ref (b + o)] (zW tA b sh mm) n (zE none (zW tA b sh r) n) := by
  unfold F_MScene_makeLevels at h
  refine zM_of (own := "OrreryBoxModel$Scene") (plainFor_of_name (by decide)) rfl (Nat.le_of_ble_eq_true rfl) (fun p e s m below meth c F hr hin hH => ?_)
  refine zr_iconstv (v := 0) F zd_MScene_makeLevels_0 (by decide) ?_
  refine zr_istore_n F zd_MScene_makeLevels_1 (by decide) ?_
  obtain ⟨q64, eq64, h⟩ := zoB_s h
  refine zr_loc (L' := [(0, .ref (b + o)), (1, .int 0)]) ⟨rfl, rfl, trivial⟩ ?_
  refine lp_MScene_makeLevels_2 F _ _ _ _ _ eq64 ?_
  ·
    obtain rfl := Option.some.inj h
    exact zr_vret F hr zd_MScene_makeLevels_180 (Nat.le_of_ble_eq_true rfl) (Nat.le_of_ble_eq_true rfl) ⟨rfl, rfl, rfl⟩
abbrev zb_MScene_between : ByteArray := prog_18_method_9_code
def zy_MScene_between : MethodName := ⟨"OrreryBoxModel$Scene", "between", "(IIII)I"⟩
theorem zc_MScene_between : Cond.code zy_MScene_between zb_MScene_between 17 (some .int) ∈ gw := gw_t 1946 (by decide +kernel) rfl
theorem zq_MScene_between : zy_MScene_between.cls ≠ "java/lang/invoke/MethodHandle" ∧ zy_MScene_between.cls ≠ "java/lang/invoke/VarHandle" ∧ (parseMethodDescriptor zy_MScene_between.desc).map (fun d => d.parameters.length) = some 4 := by decide +kernel
theorem zd_MScene_between_0 : decode zb_MScene_between 0 = .ok (.aload_n 0, 1) := by decide +kernel
theorem zd_MScene_between_1 : decode zb_MScene_between 1 = .ok (.getfield 83, 3) := by decide +kernel
theorem zd_MScene_between_4 : decode zb_MScene_between 4 = .ok (.bipush 32, 2) := by decide +kernel
theorem zd_MScene_between_6 : decode zb_MScene_between 6 = .ok (.iload_n 1, 1) := by decide +kernel
theorem zd_MScene_between_7 : decode zb_MScene_between 7 = .ok (.imul, 1) := by decide +kernel
theorem zd_MScene_between_8 : decode zb_MScene_between 8 = .ok (.iload_n 2, 1) := by decide +kernel
theorem zd_MScene_between_9 : decode zb_MScene_between 9 = .ok (.iadd, 1) := by decide +kernel
theorem zd_MScene_between_10 : decode zb_MScene_between 10 = .ok (.iconst 1, 1) := by decide +kernel
theorem zd_MScene_between_11 : decode zb_MScene_between 11 = .ok (.isub, 1) := by decide +kernel
theorem zd_MScene_between_12 : decode zb_MScene_between 12 = .ok (.iaload, 1) := by decide +kernel
theorem zd_MScene_between_13 : decode zb_MScene_between 13 = .ok (.i2l, 1) := by decide +kernel
theorem zd_MScene_between_14 : decode zb_MScene_between 14 = .ok (.lstore 5, 2) := by decide +kernel
theorem zd_MScene_between_16 : decode zb_MScene_between 16 = .ok (.aload_n 0, 1) := by decide +kernel
theorem zd_MScene_between_17 : decode zb_MScene_between 17 = .ok (.getfield 83, 3) := by decide +kernel
theorem zd_MScene_between_20 : decode zb_MScene_between 20 = .ok (.bipush 32, 2) := by decide +kernel
theorem zd_MScene_between_22 : decode zb_MScene_between 22 = .ok (.iload_n 1, 1) := by decide +kernel
theorem zd_MScene_between_23 : decode zb_MScene_between 23 = .ok (.imul, 1) := by decide +kernel
theorem zd_MScene_between_24 : decode zb_MScene_between 24 = .ok (.iload_n 2, 1) := by decide +kernel
theorem zd_MScene_between_25 : decode zb_MScene_between 25 = .ok (.iadd, 1) := by decide +kernel
theorem zd_MScene_between_26 : decode zb_MScene_between 26 = .ok (.iaload, 1) := by decide +kernel
theorem zd_MScene_between_27 : decode zb_MScene_between 27 = .ok (.i2l, 1) := by decide +kernel
theorem zd_MScene_between_28 : decode zb_MScene_between 28 = .ok (.lstore 7, 2) := by decide +kernel
theorem zd_MScene_between_30 : decode zb_MScene_between 30 = .ok (.aload_n 0, 1) := by decide +kernel
theorem zd_MScene_between_31 : decode zb_MScene_between 31 = .ok (.getfield 86, 3) := by decide +kernel
theorem zd_MScene_between_34 : decode zb_MScene_between 34 = .ok (.bipush 96, 2) := by decide +kernel
theorem zd_MScene_between_36 : decode zb_MScene_between 36 = .ok (.iload_n 1, 1) := by decide +kernel
theorem zd_MScene_between_37 : decode zb_MScene_between 37 = .ok (.imul, 1) := by decide +kernel
theorem zd_MScene_between_38 : decode zb_MScene_between 38 = .ok (.iconst 3, 1) := by decide +kernel
theorem zd_MScene_between_39 : decode zb_MScene_between 39 = .ok (.iload_n 2, 1) := by decide +kernel
theorem zd_MScene_between_40 : decode zb_MScene_between 40 = .ok (.iconst 1, 1) := by decide +kernel
theorem zd_MScene_between_41 : decode zb_MScene_between 41 = .ok (.isub, 1) := by decide +kernel
theorem zd_MScene_between_42 : decode zb_MScene_between 42 = .ok (.imul, 1) := by decide +kernel
theorem zd_MScene_between_43 : decode zb_MScene_between 43 = .ok (.iadd, 1) := by decide +kernel
theorem zd_MScene_between_44 : decode zb_MScene_between 44 = .ok (.iload_n 3, 1) := by decide +kernel
theorem zd_MScene_between_45 : decode zb_MScene_between 45 = .ok (.iadd, 1) := by decide +kernel
theorem zd_MScene_between_46 : decode zb_MScene_between 46 = .ok (.iaload, 1) := by decide +kernel
theorem zd_MScene_between_47 : decode zb_MScene_between 47 = .ok (.i2l, 1) := by decide +kernel
theorem zd_MScene_between_48 : decode zb_MScene_between 48 = .ok (.lstore 9, 2) := by decide +kernel
theorem zd_MScene_between_50 : decode zb_MScene_between 50 = .ok (.aload_n 0, 1) := by decide +kernel
theorem zd_MScene_between_51 : decode zb_MScene_between 51 = .ok (.getfield 86, 3) := by decide +kernel
theorem zd_MScene_between_54 : decode zb_MScene_between 54 = .ok (.bipush 96, 2) := by decide +kernel
theorem zd_MScene_between_56 : decode zb_MScene_between 56 = .ok (.iload_n 1, 1) := by decide +kernel
theorem zd_MScene_between_57 : decode zb_MScene_between 57 = .ok (.imul, 1) := by decide +kernel
theorem zd_MScene_between_58 : decode zb_MScene_between 58 = .ok (.iconst 3, 1) := by decide +kernel
theorem zd_MScene_between_59 : decode zb_MScene_between 59 = .ok (.iload_n 2, 1) := by decide +kernel
theorem zd_MScene_between_60 : decode zb_MScene_between 60 = .ok (.imul, 1) := by decide +kernel
theorem zd_MScene_between_61 : decode zb_MScene_between 61 = .ok (.iadd, 1) := by decide +kernel
theorem zd_MScene_between_62 : decode zb_MScene_between 62 = .ok (.iload_n 3, 1) := by decide +kernel
theorem zd_MScene_between_63 : decode zb_MScene_between 63 = .ok (.iadd, 1) := by decide +kernel
theorem zd_MScene_between_64 : decode zb_MScene_between 64 = .ok (.iaload, 1) := by decide +kernel
theorem zd_MScene_between_65 : decode zb_MScene_between 65 = .ok (.i2l, 1) := by decide +kernel
theorem zd_MScene_between_66 : decode zb_MScene_between 66 = .ok (.lstore 11, 2) := by decide +kernel
theorem zd_MScene_between_68 : decode zb_MScene_between 68 = .ok (.aload_n 0, 1) := by decide +kernel
theorem zd_MScene_between_69 : decode zb_MScene_between 69 = .ok (.getfield 77, 3) := by decide +kernel
theorem zd_MScene_between_72 : decode zb_MScene_between 72 = .ok (.iload_n 1, 1) := by decide +kernel
theorem zd_MScene_between_73 : decode zb_MScene_between 73 = .ok (.iaload, 1) := by decide +kernel
theorem zd_MScene_between_74 : decode zb_MScene_between 74 = .ok (.ifCond .ne 7, 3) := by decide +kernel
theorem zd_MScene_between_77 : decode zb_MScene_between 77 = .ok (.lload 9, 2) := by decide +kernel
theorem zd_MScene_between_79 : decode zb_MScene_between 79 = .ok (.l2i, 1) := by decide +kernel
theorem zd_MScene_between_80 : decode zb_MScene_between 80 = .ok (.ireturn, 1) := by decide +kernel
theorem zd_MScene_between_81 : decode zb_MScene_between 81 = .ok (.aload_n 0, 1) := by decide +kernel
theorem zd_MScene_between_82 : decode zb_MScene_between 82 = .ok (.getfield 77, 3) := by decide +kernel
theorem zd_MScene_between_85 : decode zb_MScene_between 85 = .ok (.iload_n 1, 1) := by decide +kernel
theorem zd_MScene_between_86 : decode zb_MScene_between 86 = .ok (.iaload, 1) := by decide +kernel
theorem zd_MScene_between_87 : decode zb_MScene_between 87 = .ok (.iconst 1, 1) := by decide +kernel
theorem zd_MScene_between_88 : decode zb_MScene_between 88 = .ok (.if_icmp .ne 28, 3) := by decide +kernel
theorem zd_MScene_between_91 : decode zb_MScene_between 91 = .ok (.lload 9, 2) := by decide +kernel
theorem zd_MScene_between_93 : decode zb_MScene_between 93 = .ok (.lload 11, 2) := by decide +kernel
theorem zd_MScene_between_95 : decode zb_MScene_between 95 = .ok (.lload 9, 2) := by decide +kernel
theorem zd_MScene_between_97 : decode zb_MScene_between 97 = .ok (.lsub, 1) := by decide +kernel
theorem zd_MScene_between_98 : decode zb_MScene_between 98 = .ok (.iload 4, 2) := by decide +kernel
theorem zd_MScene_between_100 : decode zb_MScene_between 100 = .ok (.i2l, 1) := by decide +kernel
theorem zd_MScene_between_101 : decode zb_MScene_between 101 = .ok (.lload 5, 2) := by decide +kernel
theorem zd_MScene_between_103 : decode zb_MScene_between 103 = .ok (.lsub, 1) := by decide +kernel
theorem zd_MScene_between_104 : decode zb_MScene_between 104 = .ok (.lmul, 1) := by decide +kernel
theorem zd_MScene_between_105 : decode zb_MScene_between 105 = .ok (.lload 7, 2) := by decide +kernel
theorem zd_MScene_between_107 : decode zb_MScene_between 107 = .ok (.lload 5, 2) := by decide +kernel
theorem zd_MScene_between_109 : decode zb_MScene_between 109 = .ok (.lsub, 1) := by decide +kernel
theorem zd_MScene_between_110 : decode zb_MScene_between 110 = .ok (.invokestatic 137, 3) := by decide +kernel
theorem zd_MScene_between_113 : decode zb_MScene_between 113 = .ok (.ladd, 1) := by decide +kernel
theorem zd_MScene_between_114 : decode zb_MScene_between 114 = .ok (.l2i, 1) := by decide +kernel
theorem zd_MScene_between_115 : decode zb_MScene_between 115 = .ok (.ireturn, 1) := by decide +kernel
theorem zd_MScene_between_116 : decode zb_MScene_between 116 = .ok (.iload 4, 2) := by decide +kernel
theorem zd_MScene_between_118 : decode zb_MScene_between 118 = .ok (.i2l, 1) := by decide +kernel
theorem zd_MScene_between_119 : decode zb_MScene_between 119 = .ok (.lload 5, 2) := by decide +kernel
theorem zd_MScene_between_121 : decode zb_MScene_between 121 = .ok (.lsub, 1) := by decide +kernel
theorem zd_MScene_between_122 : decode zb_MScene_between 122 = .ok (.ldc2_w 143, 3) := by decide +kernel
theorem zd_MScene_between_125 : decode zb_MScene_between 125 = .ok (.lmul, 1) := by decide +kernel
theorem zd_MScene_between_126 : decode zb_MScene_between 126 = .ok (.lload 7, 2) := by decide +kernel
theorem zd_MScene_between_128 : decode zb_MScene_between 128 = .ok (.lload 5, 2) := by decide +kernel
theorem zd_MScene_between_130 : decode zb_MScene_between 130 = .ok (.lsub, 1) := by decide +kernel
theorem zd_MScene_between_131 : decode zb_MScene_between 131 = .ok (.invokestatic 137, 3) := by decide +kernel
theorem zd_MScene_between_134 : decode zb_MScene_between 134 = .ok (.lstore 13, 2) := by decide +kernel
theorem zd_MScene_between_136 : decode zb_MScene_between 136 = .ok (.lload 13, 2) := by decide +kernel
theorem zd_MScene_between_138 : decode zb_MScene_between 138 = .ok (.lload 13, 2) := by decide +kernel
theorem zd_MScene_between_140 : decode zb_MScene_between 140 = .ok (.invokestatic 145, 3) := by decide +kernel
theorem zd_MScene_between_143 : decode zb_MScene_between 143 = .ok (.ldc2_w 150, 3) := by decide +kernel
theorem zd_MScene_between_146 : decode zb_MScene_between 146 = .ok (.ldc2_w 152, 3) := by decide +kernel
theorem zd_MScene_between_149 : decode zb_MScene_between 149 = .ok (.lload 13, 2) := by decide +kernel
theorem zd_MScene_between_151 : decode zb_MScene_between 151 = .ok (.lmul, 1) := by decide +kernel
theorem zd_MScene_between_152 : decode zb_MScene_between 152 = .ok (.lsub, 1) := by decide +kernel
theorem zd_MScene_between_153 : decode zb_MScene_between 153 = .ok (.invokestatic 145, 3) := by decide +kernel
theorem zd_MScene_between_156 : decode zb_MScene_between 156 = .ok (.lstore 15, 2) := by decide +kernel
theorem zd_MScene_between_158 : decode zb_MScene_between 158 = .ok (.lload 9, 2) := by decide +kernel
theorem zd_MScene_between_160 : decode zb_MScene_between 160 = .ok (.lload 11, 2) := by decide +kernel
theorem zd_MScene_between_162 : decode zb_MScene_between 162 = .ok (.lload 9, 2) := by decide +kernel
theorem zd_MScene_between_164 : decode zb_MScene_between 164 = .ok (.lsub, 1) := by decide +kernel
theorem zd_MScene_between_165 : decode zb_MScene_between 165 = .ok (.lload 15, 2) := by decide +kernel
theorem zd_MScene_between_167 : decode zb_MScene_between 167 = .ok (.invokestatic 145, 3) := by decide +kernel
theorem zd_MScene_between_170 : decode zb_MScene_between 170 = .ok (.ladd, 1) := by decide +kernel
theorem zd_MScene_between_171 : decode zb_MScene_between 171 = .ok (.l2i, 1) := by decide +kernel
theorem zd_MScene_between_172 : decode zb_MScene_between 172 = .ok (.ireturn, 1) := by decide +kernel
theorem zw_1948 : (Jvm.Cond.constantLong "OrreryBoxModel$Scene" (143 : Nat) (65536 : Int64)) ∈ gw := gw_t 1948 (by decide +kernel) rfl
theorem zw_1947 : (Jvm.Cond.methodLink "OrreryBoxModel$Scene" (137 : Nat) ({ cls := "java/lang/Math", name := "floorDiv", desc := "(JJ)J" } : Jvm.MethodName)) ∈ gw := gw_t 1947 (by decide +kernel) rfl
theorem zs_MScene_137 : zwS "OrreryBoxModel$Scene" 137 zy_JMath_floorDiv zb_JMath_floorDiv 6 (some .long) := ⟨zw_1947, zw_574, zw_4, zc_JMath_floorDiv⟩
theorem zw_1949 : (Jvm.Cond.methodLink "OrreryBoxModel$Scene" (145 : Nat) ({ cls := "OrreryBoxModel$Painter", name := "mul", desc := "(JJ)J" } : Jvm.MethodName)) ∈ gw := gw_t 1949 (by decide +kernel) rfl
theorem zs_MScene_145 : zwS "OrreryBoxModel$Scene" 145 zy_MPainter_mul zb_MPainter_mul 4 (some .long) := ⟨zw_1949, zw_1950, zw_17, zc_MPainter_mul⟩
theorem zw_1954 : (Jvm.Cond.constantLong "OrreryBoxModel$Scene" (150 : Nat) (196608 : Int64)) ∈ gw := gw_t 1954 (by decide +kernel) rfl
theorem zw_1955 : (Jvm.Cond.constantLong "OrreryBoxModel$Scene" (152 : Nat) (2 : Int64)) ∈ gw := gw_t 1955 (by decide +kernel) rfl
def F_MScene_between (sh : zSh) (mm : zMem) (o : Nat) (x0_ : Int32) (x1_ : Int32) (x2_ : Int32) (x3_ : Int32) : Option (Int32 × zMem) := zoS (sh o) 15 (fun le2 => Option.bind (mm.2.2 o 29) (fun a3 => zoL (((32 * x0_) + x1_) - 1) (fun i4 => zoS (sh a3) 100 (fun le6 => if (i4 : Int32) < 0 ∨ le6 ≤ (i4 : Int32).toNatClampNeg then none else zoL (((mm.1 a3 (i4 : Int32).toNatClampNeg) : Int32).toInt64) (fun x8 => zoS (sh o) 15 (fun le10 => Option.bind (mm.2.2 o 29) (fun a11 => zoL ((32 * x0_) + x1_) (fun i12 => zoS (sh a11) 100 (fun le14 => if (i12 : Int32) < 0 ∨ le14 ≤ (i12 : Int32).toNatClampNeg then none else zoL (((mm.1 a11 (i12 : Int32).toNatClampNeg) : Int32).toInt64) (fun x16 => zoS (sh o) 15 (fun le18 => Option.bind (mm.2.2 o 30) (fun a19 => zoL (((96 * x0_) + (3 * (x1_ - 1))) + x2_) (fun i20 => zoS (sh a19) 100 (fun le22 => if (i20 : Int32) < 0 ∨ le22 ≤ (i20 : Int32).toNatClampNeg then none else zoL (((mm.1 a19 (i20 : Int32).toNatClampNeg) : Int32).toInt64) (fun x24 => zoS (sh o) 15 (fun le26 => Option.bind (mm.2.2 o 30) (fun a27 => zoL (((96 * x0_) + (3 * x1_)) + x2_) (fun i28 => zoS (sh a27) 100 (fun le30 => if (i28 : Int32) < 0 ∨ le30 ≤ (i28 : Int32).toNatClampNeg then none else zoL (((mm.1 a27 (i28 : Int32).toNatClampNeg) : Int32).toInt64) (fun x32 => zoS (sh o) 15 (fun le34 => Option.bind (mm.2.2 o 27) (fun a35 => zoS (sh a35) 100 (fun le37 => if (x0_ : Int32) < 0 ∨ le37 ≤ (x0_ : Int32).toNatClampNeg then none else (if (mm.1 a35 (x0_ : Int32).toNatClampNeg) = 0 then some (((x24 : Int64).toInt32), mm) else zoS (sh o) 15 (fun le41 => Option.bind (mm.2.2 o 27) (fun a42 => zoS (sh a42) 100 (fun le44 => if (x0_ : Int32) < 0 ∨ le44 ≤ (x0_ : Int32).toNatClampNeg then none else (if (mm.1 a42 (x0_ : Int32).toNatClampNeg) = 1 then zoL ((x32 - x24) * (((x3_ : Int32).toInt64) - x8)) (fun x54 => Option.bind (F_JMath_floorDiv sh mm x54 (x16 - x8)) (fun p55 => some ((((x24 + p55.1) : Int64).toInt32), p55.2))) else zoL ((((x3_ : Int32).toInt64) - x8) * 65536) (fun x47 => Option.bind (F_JMath_floorDiv sh mm x47 (x16 - x8)) (fun p48 => zoL (sp_MPainter_mul (p48.1) (p48.1)) (fun x50 => zoL (sp_MPainter_mul x50 (196608 - (2 * p48.1))) (fun x52 => some ((((x24 + (sp_MPainter_mul (x32 - x24) x52)) : Int64).toInt32), p48.2)))))))))))))))))))))))))))))))))
set_option maxHeartbeats 4000000 in
set_option maxRecDepth 100000 in
theorem k_MScene_between (l : Launch) (D : va_G) (tA : Nat → ClassId) (b : Nat) (sh : zSh) (n : Nat) {mm : zMem} {o : Nat} {x0_ : Int32} {x1_ : Int32} {x2_ : Int32} {x3_ : Int32} {r : (Int32 × zMem)} (h : F_MScene_between sh mm o x0_ x1_ x2_ x3_ = some r) : zM l D tA b zy_MScene_between zb_MScene_between 17 (some .int) 2 48 0 0 [.ref (b + o), .int x0_, .int x1_, .int x2_, .int x3_] (zW tA b sh mm) n (zE (some (.int (r.1))) (zW tA b sh r.2) n) := by
  unfold F_MScene_between at h
  refine zM_of (own := "OrreryBoxModel$Scene") (plainFor_of_name (by decide)) rfl (Nat.le_of_ble_eq_true rfl) (fun p e s m below meth c F hr hin hH => ?_)
  refine zr_aload_n F zd_MScene_between_0 rfl ?_
  obtain ⟨le2, hs1, h⟩ := zoS_s h
  obtain ⟨a3, ea3, h⟩ := zoB_s h
  refine zr_get F 15 29 zd_MScene_between_1 (zW_o hs1 (by decide)) rfl (by decide) zw_1400 rfl (by rfl) ?_
  refine zr_tor ea3 ?_
  refine zr_bipushv (v := 32) F zd_MScene_between_4 (by decide) ?_
  refine zr_iload_n F zd_MScene_between_6 rfl ?_
  refine zr_imul F zd_MScene_between_7 ?_
  refine zr_iload_n F zd_MScene_between_8 rfl ?_
  refine zr_iadd F zd_MScene_between_9 ?_
  refine zr_pcn 10 rfl ?_
  refine zr_iconstv (v := 1) F zd_MScene_between_10 (by decide) ?_
  refine zr_isub F zd_MScene_between_11 ?_
  obtain ⟨i4, ei4, h⟩ := zoL_s h
  rw [← ei4]
  obtain ⟨le6, hs5, h⟩ := zoS_s h
  obtain ⟨hi7, h⟩ := zoI_s h
  refine zr_iald F zd_MScene_between_12 (zW_a0 hs5) hi7 ?_
  refine zr_i2l F zd_MScene_between_13 ?_
  obtain ⟨x8, ex8, h⟩ := zoL_s h
  rw [← ex8]
  refine zr_lstore F zd_MScene_between_14 (by decide) ?_
  refine zr_aload_n F zd_MScene_between_16 rfl ?_
  obtain ⟨le10, hs9, h⟩ := zoS_s h
  obtain ⟨a11, ea11, h⟩ := zoB_s h
  refine zr_get F 15 29 zd_MScene_between_17 (zW_o hs9 (by decide)) rfl (by decide) zw_1400 rfl (by rfl) ?_
  refine zr_tor ea11 ?_
  refine zr_bipushv (v := 32) F zd_MScene_between_20 (by decide) ?_
  refine zr_pcn 22 rfl ?_
  refine zr_iload_n F zd_MScene_between_22 rfl ?_
  refine zr_imul F zd_MScene_between_23 ?_
  refine zr_iload_n F zd_MScene_between_24 rfl ?_
  refine zr_iadd F zd_MScene_between_25 ?_
  obtain ⟨i12, ei12, h⟩ := zoL_s h
  rw [← ei12]
  obtain ⟨le14, hs13, h⟩ := zoS_s h
  obtain ⟨hi15, h⟩ := zoI_s h
  refine zr_iald F zd_MScene_between_26 (zW_a0 hs13) hi15 ?_
  refine zr_i2l F zd_MScene_between_27 ?_
  obtain ⟨x16, ex16, h⟩ := zoL_s h
  rw [← ex16]
  refine zr_lstore F zd_MScene_between_28 (by decide) ?_
  refine zr_aload_n F zd_MScene_between_30 rfl ?_
  refine zr_pcn 31 rfl ?_
  obtain ⟨le18, hs17, h⟩ := zoS_s h
  obtain ⟨a19, ea19, h⟩ := zoB_s h
  refine zr_get F 15 30 zd_MScene_between_31 (zW_o hs17 (by decide)) rfl (by decide) zw_1402 rfl (by rfl) ?_
  refine zr_tor ea19 ?_
  refine zr_bipushv (v := 96) F zd_MScene_between_34 (by decide) ?_
  refine zr_iload_n F zd_MScene_between_36 rfl ?_
  refine zr_imul F zd_MScene_between_37 ?_
  refine zr_iconstv (v := 3) F zd_MScene_between_38 (by decide) ?_
  refine zr_iload_n F zd_MScene_between_39 rfl ?_
  refine zr_iconstv (v := 1) F zd_MScene_between_40 (by decide) ?_
  refine zr_isub F zd_MScene_between_41 ?_
  refine zr_pcn 42 rfl ?_
  refine zr_imul F zd_MScene_between_42 ?_
  refine zr_iadd F zd_MScene_between_43 ?_
  refine zr_iload_n F zd_MScene_between_44 rfl ?_
  refine zr_iadd F zd_MScene_between_45 ?_
  obtain ⟨i20, ei20, h⟩ := zoL_s h
  rw [← ei20]
  obtain ⟨le22, hs21, h⟩ := zoS_s h
  obtain ⟨hi23, h⟩ := zoI_s h
  refine zr_iald F zd_MScene_between_46 (zW_a0 hs21) hi23 ?_
  refine zr_i2l F zd_MScene_between_47 ?_
  obtain ⟨x24, ex24, h⟩ := zoL_s h
  rw [← ex24]
  refine zr_lstore F zd_MScene_between_48 (by decide) ?_
  refine zr_aload_n F zd_MScene_between_50 rfl ?_
  refine zr_pcn 51 rfl ?_
  obtain ⟨le26, hs25, h⟩ := zoS_s h
  obtain ⟨a27, ea27, h⟩ := zoB_s h
  refine zr_get F 15 30 zd_MScene_between_51 (zW_o hs25 (by decide)) rfl (by decide) zw_1402 rfl (by rfl) ?_
  refine zr_tor ea27 ?_
  refine zr_bipushv (v := 96) F zd_MScene_between_54 (by decide) ?_
  refine zr_iload_n F zd_MScene_between_56 rfl ?_
  refine zr_imul F zd_MScene_between_57 ?_
  refine zr_iconstv (v := 3) F zd_MScene_between_58 (by decide) ?_
  refine zr_iload_n F zd_MScene_between_59 rfl ?_
  refine zr_imul F zd_MScene_between_60 ?_
  refine zr_iadd F zd_MScene_between_61 ?_
  refine zr_pcn 62 rfl ?_
  refine zr_iload_n F zd_MScene_between_62 rfl ?_
  refine zr_iadd F zd_MScene_between_63 ?_
  obtain ⟨i28, ei28, h⟩ := zoL_s h
  rw [← ei28]
  obtain ⟨le30, hs29, h⟩ := zoS_s h
  obtain ⟨hi31, h⟩ := zoI_s h
  refine zr_iald F zd_MScene_between_64 (zW_a0 hs29) hi31 ?_
  refine zr_i2l F zd_MScene_between_65 ?_
  obtain ⟨x32, ex32, h⟩ := zoL_s h
  rw [← ex32]
  refine zr_lstore F zd_MScene_between_66 (by decide) ?_
  refine zr_aload_n F zd_MScene_between_68 rfl ?_
  obtain ⟨le34, hs33, h⟩ := zoS_s h
  obtain ⟨a35, ea35, h⟩ := zoB_s h
  refine zr_get F 15 27 zd_MScene_between_69 (zW_o hs33 (by decide)) rfl (by decide) zw_1396 rfl (by rfl) ?_
  refine zr_tor ea35 ?_
  refine zr_iload_n F zd_MScene_between_72 rfl ?_
  refine zr_pcn 73 rfl ?_
  obtain ⟨le37, hs36, h⟩ := zoS_s h
  obtain ⟨hi38, h⟩ := zoI_s h
  refine zr_iald F zd_MScene_between_73 (zW_a0 hs36) hi38 ?_
  refine zr_if_ne F 81 zd_MScene_between_74 (by decide) (fun hb39 => ?_) (fun hb39 => ?_)
  ·
    rw [if_neg hb39] at h
    refine zr_aload_n F zd_MScene_between_81 rfl ?_
    obtain ⟨le41, hs40, h⟩ := zoS_s h
    obtain ⟨a42, ea42, h⟩ := zoB_s h
    refine zr_get F 15 27 zd_MScene_between_82 (zW_o hs40 (by decide)) rfl (by decide) zw_1396 rfl (by rfl) ?_
    refine zr_tor ea42 ?_
    refine zr_iload_n F zd_MScene_between_85 rfl ?_
    obtain ⟨le44, hs43, h⟩ := zoS_s h
    obtain ⟨hi45, h⟩ := zoI_s h
    refine zr_iald F zd_MScene_between_86 (zW_a0 hs43) hi45 ?_
    refine zr_iconstv (v := 1) F zd_MScene_between_87 (by decide) ?_
    refine zr_icmp_ne F 116 zd_MScene_between_88 (by decide) (fun hb46 => ?_) (fun hb46 => ?_)
    ·
      rw [if_neg hb46] at h
      refine zr_pcn 116 rfl ?_
      refine zr_iload F zd_MScene_between_116 rfl ?_
      refine zr_i2l F zd_MScene_between_118 ?_
      refine zr_lload F zd_MScene_between_119 rfl ?_
      refine zr_lsub F zd_MScene_between_121 ?_
      refine zr_ldc2 F zd_MScene_between_122 zw_1948 ?_
      refine zr_lmul F zd_MScene_between_125 ?_
      refine zr_lload F zd_MScene_between_126 rfl ?_
      refine zr_lload F zd_MScene_between_128 rfl ?_
      refine zr_pcn 130 rfl ?_
      refine zr_lsub F zd_MScene_between_130 ?_
      obtain ⟨x47, ex47, h⟩ := zoL_s h
      rw [← ex47]
      obtain ⟨p48, ep48, h⟩ := zoB_s h
      refine zr_callS1 F (k_JMath_floorDiv l D tA b sh _ ep48) zd_MScene_between_131 zs_MScene_137 zq_JMath_floorDiv rfl rfl ⟨(Nat.le_of_ble_eq_true rfl), (Nat.le_of_ble_eq_true rfl)⟩ (Nat.le_of_ble_eq_true rfl) ⟨(Nat.le_of_ble_eq_true rfl), (Nat.le_of_ble_eq_true rfl)⟩ ?_
      refine zr_lstore F zd_MScene_between_134 (by decide) ?_
      refine zr_lload F zd_MScene_between_136 rfl ?_
      refine zr_lload F zd_MScene_between_138 rfl ?_
      refine zr_callS1 F (c_MPainter_mul l D tA b _ _ (p48.1) (p48.1)) zd_MScene_between_140 zs_MScene_145 zq_MPainter_mul rfl rfl ⟨(Nat.le_of_ble_eq_true rfl), (Nat.le_of_ble_eq_true rfl)⟩ (Nat.le_of_ble_eq_true rfl) ⟨(Nat.le_of_ble_eq_true rfl), (Nat.le_of_ble_eq_true rfl)⟩ ?_
      refine zr_ldc2 F zd_MScene_between_143 zw_1954 ?_
      refine zr_ldc2 F zd_MScene_between_146 zw_1955 ?_
      refine zr_pcn 149 rfl ?_
      refine zr_lload F zd_MScene_between_149 rfl ?_
      refine zr_lmul F zd_MScene_between_151 ?_
      refine zr_lsub F zd_MScene_between_152 ?_
      obtain ⟨x50, ex50, h⟩ := zoL_s h
      rw [← ex50]
      refine zr_callS1 F (c_MPainter_mul l D tA b _ _ x50 (196608 - (2 * p48.1))) zd_MScene_between_153 zs_MScene_145 zq_MPainter_mul rfl rfl ⟨(Nat.le_of_ble_eq_true rfl), (Nat.le_of_ble_eq_true rfl)⟩ (Nat.le_of_ble_eq_true rfl) ⟨(Nat.le_of_ble_eq_true rfl), (Nat.le_of_ble_eq_true rfl)⟩ ?_
      obtain ⟨x52, ex52, h⟩ := zoL_s h
      rw [← ex52]
      refine zr_lstore F zd_MScene_between_156 (by decide) ?_
      refine zr_lload F zd_MScene_between_158 rfl ?_
      refine zr_lload F zd_MScene_between_160 rfl ?_
      refine zr_lload F zd_MScene_between_162 rfl ?_
      refine zr_pcn 164 rfl ?_
      refine zr_lsub F zd_MScene_between_164 ?_
      refine zr_lload F zd_MScene_between_165 rfl ?_
      refine zr_callS1 F (c_MPainter_mul l D tA b _ _ (x32 - x24) x52) zd_MScene_between_167 zs_MScene_145 zq_MPainter_mul rfl rfl ⟨(Nat.le_of_ble_eq_true rfl), (Nat.le_of_ble_eq_true rfl)⟩ (Nat.le_of_ble_eq_true rfl) ⟨(Nat.le_of_ble_eq_true rfl), (Nat.le_of_ble_eq_true rfl)⟩ ?_
      refine zr_ladd F zd_MScene_between_170 ?_
      refine zr_l2i F zd_MScene_between_171 ?_
      obtain rfl := Option.some.inj h
      exact zr_iret F hr zd_MScene_between_172 (Nat.le_of_ble_eq_true rfl) (Nat.le_of_ble_eq_true rfl) ⟨rfl, rfl, rfl⟩
    ·
      rw [if_pos hb46] at h
      refine zr_lload F zd_MScene_between_91 rfl ?_
      refine zr_lload F zd_MScene_between_93 rfl ?_
      refine zr_pcn 95 rfl ?_
      refine zr_lload F zd_MScene_between_95 rfl ?_
      refine zr_lsub F zd_MScene_between_97 ?_
      refine zr_iload F zd_MScene_between_98 rfl ?_
      refine zr_i2l F zd_MScene_between_100 ?_
      refine zr_lload F zd_MScene_between_101 rfl ?_
      refine zr_lsub F zd_MScene_between_103 ?_
      refine zr_lmul F zd_MScene_between_104 ?_
      refine zr_lload F zd_MScene_between_105 rfl ?_
      refine zr_pcn 107 rfl ?_
      refine zr_lload F zd_MScene_between_107 rfl ?_
      refine zr_lsub F zd_MScene_between_109 ?_
      obtain ⟨x54, ex54, h⟩ := zoL_s h
      rw [← ex54]
      obtain ⟨p55, ep55, h⟩ := zoB_s h
      refine zr_callS1 F (k_JMath_floorDiv l D tA b sh _ ep55) zd_MScene_between_110 zs_MScene_137 zq_JMath_floorDiv rfl rfl ⟨(Nat.le_of_ble_eq_true rfl), (Nat.le_of_ble_eq_true rfl)⟩ (Nat.le_of_ble_eq_true rfl) ⟨(Nat.le_of_ble_eq_true rfl), (Nat.le_of_ble_eq_true rfl)⟩ ?_
      refine zr_ladd F zd_MScene_between_113 ?_
      refine zr_l2i F zd_MScene_between_114 ?_
      obtain rfl := Option.some.inj h
      exact zr_iret F hr zd_MScene_between_115 (Nat.le_of_ble_eq_true rfl) (Nat.le_of_ble_eq_true rfl) ⟨rfl, rfl, rfl⟩
  ·
    rw [if_pos hb39] at h
    refine zr_lload F zd_MScene_between_77 rfl ?_
    refine zr_l2i F zd_MScene_between_79 ?_
    refine zr_pcn 80 rfl ?_
    obtain rfl := Option.some.inj h
    exact zr_iret F hr zd_MScene_between_80 (Nat.le_of_ble_eq_true rfl) (Nat.le_of_ble_eq_true rfl) ⟨rfl, rfl, rfl⟩
def F_OB_feed (sh : zSh) (mm : zMem) (o : Nat) (x0_ : Int32) (x1_ : Int32) (x2_ : Int32) (x3_ : Int32) (x4_ : Int32) : Option (Int32 × zMem) := zoS (sh o) 0 (fun le2 => (if ((mm.1 o 3) + 20) ≤ 65536 then zoS (sh o) 0 (fun le5 => Option.bind (F_OB_tapeNumber sh mm o x0_) (fun p6 => zoS (sh o) 0 (fun le8 => Option.bind (F_OB_tapeNumber sh p6 o x1_) (fun p9 => zoS (sh o) 0 (fun le11 => Option.bind (F_OB_tapeNumber sh p9 o x2_) (fun p12 => zoS (sh o) 0 (fun le14 => Option.bind (F_OB_tapeNumber sh p12 o x3_) (fun p15 => zoS (sh o) 0 (fun le17 => Option.bind (F_OB_tapeNumber sh p15 o x4_) (fun p18 => some (1, p18))))))))))) else some (0, mm)))
set_option maxHeartbeats 4000000 in
set_option maxRecDepth 100000 in
theorem k_OB_feed (l : Launch) (D : va_G) (tA : Nat → ClassId) (b : Nat) (sh : zSh) (n : Nat) {mm : zMem} {o : Nat} {x0_ : Int32} {x1_ : Int32} {x2_ : Int32} {x3_ : Int32} {x4_ : Int32} {r : (Int32 × zMem)} (h : F_OB_feed sh mm o x0_ x1_ x2_ x3_ x4_ = some r) : zM l D tA b zy_OB_feed zb_OB_feed 6 (some .boolean) 1 22 0 0 [.ref (b + o), .int x0_, .int x1_, .int x2_, .int x3_, .int x4_] (zW tA b sh mm) n (zE (some (.int (r.1))) (zW tA b sh r.2) n) := by
  unfold F_OB_feed at h
  refine zM_of (own := "OrreryBox") (plainFor_of_name (by decide)) rfl (Nat.le_of_ble_eq_true rfl) (fun p e s m below meth c F hr hin hH => ?_)
  refine zr_aload_n F zd_OB_feed_0 rfl ?_
  obtain ⟨le2, hs1, h⟩ := zoS_s h
  refine zr_get F 0 3 zd_OB_feed_1 (zW_o hs1 (by decide)) rfl (by decide) zw_491 rfl (by rfl) ?_
  refine zr_bipushv (v := 20) F zd_OB_feed_4 (by decide) ?_
  refine zr_iadd F zd_OB_feed_6 ?_
  refine zr_ldc F zd_OB_feed_7 zw_37 ?_
  refine zr_icmp_le F 14 zd_OB_feed_9 (by decide) (fun hb3 => ?_) (fun hb3 => ?_)
  ·
    rw [if_pos hb3] at h
    refine zr_aload_n F zd_OB_feed_14 rfl ?_
    refine zr_pcn 15 rfl ?_
    refine zr_iload_n F zd_OB_feed_15 rfl ?_
    obtain ⟨le5, hs4, h⟩ := zoS_s h
    obtain ⟨p6, ep6, h⟩ := zoB_s h
    refine zr_callV0 F (k_OB_tapeNumber l D tA b sh _ ep6) zd_OB_feed_16 (zW_o hs4 (by decide)) rfl zs_OB_72 rfl zq_OB_tapeNumber rfl rfl ⟨(Nat.le_of_ble_eq_true rfl), (Nat.le_of_ble_eq_true rfl)⟩ (Nat.le_of_ble_eq_true rfl) ⟨(Nat.le_of_ble_eq_true rfl), (Nat.le_of_ble_eq_true rfl)⟩ ?_
    refine zr_aload_n F zd_OB_feed_19 rfl ?_
    refine zr_iload_n F zd_OB_feed_20 rfl ?_
    obtain ⟨le8, hs7, h⟩ := zoS_s h
    obtain ⟨p9, ep9, h⟩ := zoB_s h
    refine zr_callV0 F (k_OB_tapeNumber l D tA b sh _ ep9) zd_OB_feed_21 (zW_o hs7 (by decide)) rfl zs_OB_72 rfl zq_OB_tapeNumber rfl rfl ⟨(Nat.le_of_ble_eq_true rfl), (Nat.le_of_ble_eq_true rfl)⟩ (Nat.le_of_ble_eq_true rfl) ⟨(Nat.le_of_ble_eq_true rfl), (Nat.le_of_ble_eq_true rfl)⟩ ?_
    refine zr_aload_n F zd_OB_feed_24 rfl ?_
    refine zr_iload_n F zd_OB_feed_25 rfl ?_
    obtain ⟨le11, hs10, h⟩ := zoS_s h
    obtain ⟨p12, ep12, h⟩ := zoB_s h
    refine zr_callV0 F (k_OB_tapeNumber l D tA b sh _ ep12) zd_OB_feed_26 (zW_o hs10 (by decide)) rfl zs_OB_72 rfl zq_OB_tapeNumber rfl rfl ⟨(Nat.le_of_ble_eq_true rfl), (Nat.le_of_ble_eq_true rfl)⟩ (Nat.le_of_ble_eq_true rfl) ⟨(Nat.le_of_ble_eq_true rfl), (Nat.le_of_ble_eq_true rfl)⟩ ?_
    refine zr_pcn 29 rfl ?_
    refine zr_aload_n F zd_OB_feed_29 rfl ?_
    refine zr_iload F zd_OB_feed_30 rfl ?_
    obtain ⟨le14, hs13, h⟩ := zoS_s h
    obtain ⟨p15, ep15, h⟩ := zoB_s h
    refine zr_callV0 F (k_OB_tapeNumber l D tA b sh _ ep15) zd_OB_feed_32 (zW_o hs13 (by decide)) rfl zs_OB_72 rfl zq_OB_tapeNumber rfl rfl ⟨(Nat.le_of_ble_eq_true rfl), (Nat.le_of_ble_eq_true rfl)⟩ (Nat.le_of_ble_eq_true rfl) ⟨(Nat.le_of_ble_eq_true rfl), (Nat.le_of_ble_eq_true rfl)⟩ ?_
    refine zr_aload_n F zd_OB_feed_35 rfl ?_
    refine zr_iload F zd_OB_feed_36 rfl ?_
    obtain ⟨le17, hs16, h⟩ := zoS_s h
    obtain ⟨p18, ep18, h⟩ := zoB_s h
    refine zr_callV0 F (k_OB_tapeNumber l D tA b sh _ ep18) zd_OB_feed_38 (zW_o hs16 (by decide)) rfl zs_OB_72 rfl zq_OB_tapeNumber rfl rfl ⟨(Nat.le_of_ble_eq_true rfl), (Nat.le_of_ble_eq_true rfl)⟩ (Nat.le_of_ble_eq_true rfl) ⟨(Nat.le_of_ble_eq_true rfl), (Nat.le_of_ble_eq_true rfl)⟩ ?_
    refine zr_iconstv (v := 1) F zd_OB_feed_41 (by decide) ?_
    obtain rfl := Option.some.inj h
    exact zr_zret F hr rfl zd_OB_feed_42 (Nat.le_of_ble_eq_true rfl) (Nat.le_of_ble_eq_true rfl) ⟨rfl, rfl, rfl⟩
  ·
    rw [if_neg hb3] at h
    refine zr_pcn 12 rfl ?_
    refine zr_iconstv (v := 0) F zd_OB_feed_12 (by decide) ?_
    obtain rfl := Option.some.inj h
    exact zr_zret F hr rfl zd_OB_feed_13 (Nat.le_of_ble_eq_true rfl) (Nat.le_of_ble_eq_true rfl) ⟨rfl, rfl, rfl⟩
theorem zw_298 : (Jvm.Cond.fieldLink "OrreryBox" (117 : Nat) "OrreryBox$Scene" "nodes" "[LOrreryBox$Node;") ∈ gw := gw_t 298 (by decide +kernel) rfl
theorem zw_227 : (Jvm.Cond.fieldLink "OrreryBox" (121 : Nat) "OrreryBox$Node" "numbers" "[I") ∈ gw := gw_t 227 (by decide +kernel) rfl
theorem zw_312 : (Jvm.Cond.fieldLink "OrreryBox" (126 : Nat) "OrreryBox$Scene" "placed" "Z") ∈ gw := gw_t 312 (by decide +kernel) rfl
def F_OB_set (sh : zSh) (mm : zMem) (o : Nat) (x0_ : Int32) (x1_ : Int32) (x2_ : Int32) (x3_ : Int32) (x4_ : Int32) : Option (Int32 × zMem) := zoS (sh o) 0 (fun le2 => Option.bind (mm.2.2 o 5) (fun a3 => zoS (sh a3) 8 (fun le5 => Option.bind (F_XScene_hasNode sh mm a3 x0_) (fun p6 => (if p6.1 = 0 then some (0, p6.2) else (if (sp_OB_within x1_ 0 2) = 0 then some (0, p6.2) else (if (sp_OB_allWithin x2_ x3_ x4_ (sp_OB_reachOf x1_)) = 0 then some (0, p6.2) else zoS (sh o) 0 (fun le14 => Option.bind ((p6.2).2.2 o 5) (fun a15 => zoS (sh a15) 8 (fun le17 => Option.bind ((p6.2).2.2 a15 4) (fun a18 => zoR (sh a18) (fun t22 le20 => if (x0_ : Int32) < 0 ∨ le20 ≤ (x0_ : Int32).toNatClampNeg then none else Option.bind ((p6.2).2.2 a18 (x0_ : Int32).toNatClampNeg) (fun a23 => zoS (sh a23) 3 (fun le25 => Option.bind ((p6.2).2.2 a23 4) (fun a26 => zoL (3 * x1_) (fun i27 => zoS (sh a26) 100 (fun le29 => if (i27 : Int32) < 0 ∨ le29 ≤ (i27 : Int32).toNatClampNeg then none else zoL (mI (p6.2) a26 (i27 : Int32).toNatClampNeg x2_) (fun mm31 => zoL ((3 * x1_) + 1) (fun i32 => zoS (sh a26) 100 (fun le34 => if (i32 : Int32) < 0 ∨ le34 ≤ (i32 : Int32).toNatClampNeg then none else zoL (mI mm31 a26 (i32 : Int32).toNatClampNeg x3_) (fun mm36 => zoL ((3 * x1_) + 2) (fun i37 => zoS (sh a26) 100 (fun le39 => if (i37 : Int32) < 0 ∨ le39 ≤ (i37 : Int32).toNatClampNeg then none else zoL (mI mm36 a26 (i37 : Int32).toNatClampNeg x4_) (fun mm41 => zoS (sh o) 0 (fun le43 => Option.bind (mm41.2.2 o 5) (fun a44 => zoS (sh a44) 8 (fun le46 => zoL (mI mm41 a44 9 0) (fun mm47 => some (1, mm47)))))))))))))))))))))))))))))
set_option maxHeartbeats 4000000 in
set_option maxRecDepth 100000 in
theorem k_OB_set (l : Launch) (D : va_G) (tA : Nat → ClassId) (b : Nat) (sh : zSh) (n : Nat) {mm : zMem} {o : Nat} {x0_ : Int32} {x1_ : Int32} {x2_ : Int32} {x3_ : Int32} {x4_ : Int32} {r : (Int32 × zMem)} (h : F_OB_set sh mm o x0_ x1_ x2_ x3_ x4_ = some r) : zM l D tA b zy_OB_set zb_OB_set 7 (some .boolean) 2 45 0 0 [.ref (b + o), .int x0_, .int x1_, .int x2_, .int x3_, .int x4_] (zW tA b sh mm) n (zE (some (.int (r.1))) (zW tA b sh r.2) n) := by
  unfold F_OB_set at h
  refine zM_of (own := "OrreryBox") (plainFor_of_name (by decide)) rfl (Nat.le_of_ble_eq_true rfl) (fun p e s m below meth c F hr hin hH => ?_)
  refine zr_aload_n F zd_OB_set_0 rfl ?_
  obtain ⟨le2, hs1, h⟩ := zoS_s h
  obtain ⟨a3, ea3, h⟩ := zoB_s h
  refine zr_get F 0 5 zd_OB_set_1 (zW_o hs1 (by decide)) rfl (by decide) zw_493 rfl (by rfl) ?_
  refine zr_tor ea3 ?_
  refine zr_iload_n F zd_OB_set_4 rfl ?_
  obtain ⟨le5, hs4, h⟩ := zoS_s h
  obtain ⟨p6, ep6, h⟩ := zoB_s h
  refine zr_callV1 F (k_XScene_hasNode l D tA b sh _ ep6) zd_OB_set_5 (zW_o hs4 (by decide)) rfl zs_OB_105 rfl zq_XScene_hasNode rfl rfl ⟨(Nat.le_of_ble_eq_true rfl), (Nat.le_of_ble_eq_true rfl)⟩ (Nat.le_of_ble_eq_true rfl) ⟨(Nat.le_of_ble_eq_true rfl), (Nat.le_of_ble_eq_true rfl)⟩ ?_
  refine zr_if_eq F 35 zd_OB_set_8 (by decide) (fun hb7 => ?_) (fun hb7 => ?_)
  ·
    rw [if_pos hb7] at h
    refine zr_iconstv (v := 0) F zd_OB_set_35 (by decide) ?_
    obtain rfl := Option.some.inj h
    exact zr_zret F hr rfl zd_OB_set_36 (Nat.le_of_ble_eq_true rfl) (Nat.le_of_ble_eq_true rfl) ⟨rfl, rfl, rfl⟩
  ·
    rw [if_neg hb7] at h
    refine zr_pcn 11 rfl ?_
    refine zr_iload_n F zd_OB_set_11 rfl ?_
    refine zr_iconstv (v := 0) F zd_OB_set_12 (by decide) ?_
    refine zr_iconstv (v := 2) F zd_OB_set_13 (by decide) ?_
    refine zr_callS1 F (c_OB_within l D tA b _ _ x1_ 0 2) zd_OB_set_14 zs_OB_97 zq_OB_within rfl rfl ⟨(Nat.le_of_ble_eq_true rfl), (Nat.le_of_ble_eq_true rfl)⟩ (Nat.le_of_ble_eq_true rfl) ⟨(Nat.le_of_ble_eq_true rfl), (Nat.le_of_ble_eq_true rfl)⟩ ?_
    refine zr_if_eq F 35 zd_OB_set_17 (by decide) (fun hb9 => ?_) (fun hb9 => ?_)
    ·
      rw [if_pos hb9] at h
      refine zr_iconstv (v := 0) F zd_OB_set_35 (by decide) ?_
      obtain rfl := Option.some.inj h
      exact zr_zret F hr rfl zd_OB_set_36 (Nat.le_of_ble_eq_true rfl) (Nat.le_of_ble_eq_true rfl) ⟨rfl, rfl, rfl⟩
    ·
      rw [if_neg hb9] at h
      refine zr_iload_n F zd_OB_set_20 rfl ?_
      refine zr_pcn 21 rfl ?_
      refine zr_iload F zd_OB_set_21 rfl ?_
      refine zr_iload F zd_OB_set_23 rfl ?_
      refine zr_iload_n F zd_OB_set_25 rfl ?_
      refine zr_callS1 F (c_OB_reachOf l D tA b _ _ x1_) zd_OB_set_26 zs_OB_109 zq_OB_reachOf rfl rfl ⟨(Nat.le_of_ble_eq_true rfl), (Nat.le_of_ble_eq_true rfl)⟩ (Nat.le_of_ble_eq_true rfl) ⟨(Nat.le_of_ble_eq_true rfl), (Nat.le_of_ble_eq_true rfl)⟩ ?_
      refine zr_callS1 F (c_OB_allWithin l D tA b _ _ x2_ x3_ x4_ (sp_OB_reachOf x1_)) zd_OB_set_29 zs_OB_113 zq_OB_allWithin rfl rfl ⟨(Nat.le_of_ble_eq_true rfl), (Nat.le_of_ble_eq_true rfl)⟩ (Nat.le_of_ble_eq_true rfl) ⟨(Nat.le_of_ble_eq_true rfl), (Nat.le_of_ble_eq_true rfl)⟩ ?_
      refine zr_if_ne F 37 zd_OB_set_32 (by decide) (fun hb12 => ?_) (fun hb12 => ?_)
      ·
        rw [if_neg hb12] at h
        refine zr_aload_n F zd_OB_set_37 rfl ?_
        obtain ⟨le14, hs13, h⟩ := zoS_s h
        obtain ⟨a15, ea15, h⟩ := zoB_s h
        refine zr_get F 0 5 zd_OB_set_38 (zW_o hs13 (by decide)) rfl (by decide) zw_493 rfl (by rfl) ?_
        refine zr_tor ea15 ?_
        refine zr_pcn 41 rfl ?_
        obtain ⟨le17, hs16, h⟩ := zoS_s h
        obtain ⟨a18, ea18, h⟩ := zoB_s h
        refine zr_get F 8 4 zd_OB_set_41 (zW_o hs16 (by decide)) rfl (by decide) zw_298 rfl (by rfl) ?_
        refine zr_tor ea18 ?_
        refine zr_iload_n F zd_OB_set_44 rfl ?_
        obtain ⟨t22, le20, hs19, h⟩ := zoR_s h
        obtain ⟨hi21, h⟩ := zoI_s h
        obtain ⟨a23, ea23, h⟩ := zoB_s h
        refine zr_aaldW F zd_OB_set_45 hs19 hi21 ea23 ?_
        obtain ⟨le25, hs24, h⟩ := zoS_s h
        obtain ⟨a26, ea26, h⟩ := zoB_s h
        refine zr_get F 3 4 zd_OB_set_46 (zW_o hs24 (by decide)) rfl (by decide) zw_227 rfl (by rfl) ?_
        refine zr_tor ea26 ?_
        refine zr_astore F zd_OB_set_49 (by decide) ?_
        refine zr_aload F zd_OB_set_51 rfl ?_
        refine zr_iconstv (v := 3) F zd_OB_set_53 (by decide) ?_
        refine zr_iload_n F zd_OB_set_54 rfl ?_
        refine zr_pcn 55 rfl ?_
        refine zr_imul F zd_OB_set_55 ?_
        refine zr_iload_n F zd_OB_set_56 rfl ?_
        obtain ⟨i27, ei27, h⟩ := zoL_s h
        rw [← ei27]
        obtain ⟨le29, hs28, h⟩ := zoS_s h
        obtain ⟨hi30, h⟩ := zoI_s h
        refine zr_iast F zd_OB_set_57 (zW_a0 hs28) hi30 ?_
        obtain ⟨mm31, emm31, h⟩ := zoL_s h
        refine zr_norm (zW tA b sh mm31) _ (by rw [emm31]; exact zW_s0 hs28) rfl ?_
        refine zr_aload F zd_OB_set_58 rfl ?_
        refine zr_iconstv (v := 3) F zd_OB_set_60 (by decide) ?_
        refine zr_iload_n F zd_OB_set_61 rfl ?_
        refine zr_imul F zd_OB_set_62 ?_
        refine zr_iconstv (v := 1) F zd_OB_set_63 (by decide) ?_
        refine zr_pcn 64 rfl ?_
        refine zr_iadd F zd_OB_set_64 ?_
        refine zr_iload F zd_OB_set_65 rfl ?_
        obtain ⟨i32, ei32, h⟩ := zoL_s h
        rw [← ei32]
        obtain ⟨le34, hs33, h⟩ := zoS_s h
        obtain ⟨hi35, h⟩ := zoI_s h
        refine zr_iast F zd_OB_set_67 (zW_a0 hs33) hi35 ?_
        obtain ⟨mm36, emm36, h⟩ := zoL_s h
        refine zr_norm (zW tA b sh mm36) _ (by rw [emm36]; exact zW_s0 hs33) rfl ?_
        refine zr_aload F zd_OB_set_68 rfl ?_
        refine zr_iconstv (v := 3) F zd_OB_set_70 (by decide) ?_
        refine zr_iload_n F zd_OB_set_71 rfl ?_
        refine zr_imul F zd_OB_set_72 ?_
        refine zr_iconstv (v := 2) F zd_OB_set_73 (by decide) ?_
        refine zr_pcn 74 rfl ?_
        refine zr_iadd F zd_OB_set_74 ?_
        refine zr_iload F zd_OB_set_75 rfl ?_
        obtain ⟨i37, ei37, h⟩ := zoL_s h
        rw [← ei37]
        obtain ⟨le39, hs38, h⟩ := zoS_s h
        obtain ⟨hi40, h⟩ := zoI_s h
        refine zr_iast F zd_OB_set_77 (zW_a0 hs38) hi40 ?_
        obtain ⟨mm41, emm41, h⟩ := zoL_s h
        refine zr_norm (zW tA b sh mm41) _ (by rw [emm41]; exact zW_s0 hs38) rfl ?_
        refine zr_aload_n F zd_OB_set_78 rfl ?_
        obtain ⟨le43, hs42, h⟩ := zoS_s h
        obtain ⟨a44, ea44, h⟩ := zoB_s h
        refine zr_get F 0 5 zd_OB_set_79 (zW_o hs42 (by decide)) rfl (by decide) zw_493 rfl (by rfl) ?_
        refine zr_tor ea44 ?_
        refine zr_iconstv (v := 0) F zd_OB_set_82 (by decide) ?_
        obtain ⟨le46, hs45, h⟩ := zoS_s h
        refine zr_put F 8 9 zd_OB_set_83 (zW_o hs45 (by decide)) rfl (by decide) zw_312 rfl rfl rfl rfl (by exact (Nat.le_of_ble_eq_true rfl)) ?_
        obtain ⟨mm47, emm47, h⟩ := zoL_s h
        refine zr_norm (zW tA b sh mm47) _ (by rw [emm47]; exact zW_pI (v := 0) hs45 (by decide) (zf_I_8_9 b _ _ _)) rfl ?_
        refine zr_iconstv (v := 1) F zd_OB_set_86 (by decide) ?_
        refine zr_pcn 87 rfl ?_
        obtain rfl := Option.some.inj h
        exact zr_zret F hr rfl zd_OB_set_87 (Nat.le_of_ble_eq_true rfl) (Nat.le_of_ble_eq_true rfl) ⟨rfl, rfl, rfl⟩
      ·
        rw [if_pos hb12] at h
        refine zr_iconstv (v := 0) F zd_OB_set_35 (by decide) ?_
        obtain rfl := Option.some.inj h
        exact zr_zret F hr rfl zd_OB_set_36 (Nat.le_of_ble_eq_true rfl) (Nat.le_of_ble_eq_true rfl) ⟨rfl, rfl, rfl⟩
theorem zw_216 : (Jvm.Cond.fieldLink "OrreryBox" (130 : Nat) "OrreryBox$Node" "parent" "I") ∈ gw := gw_t 216 (by decide +kernel) rfl
theorem zf_I_3_0 (b : Nat) (m : zMem) (k : Nat) (v : Int32) : (zfl b 3 m k).set 0 (.int v) = zfl b 3 (mI m k 0 v) k := by simp [zfl, mI, upd, vp_updL]
def F_OB_hang (sh : zSh) (mm : zMem) (o : Nat) (x0_ : Int32) (x1_ : Int32) : Option (Int32 × zMem) := zoS (sh o) 0 (fun le2 => Option.bind (mm.2.2 o 5) (fun a3 => zoS (sh a3) 8 (fun le5 => Option.bind (F_XScene_hasNode sh mm a3 x0_) (fun p6 => (if p6.1 = 0 then some (0, p6.2) else (if (sp_OB_within x1_ (-1) (x0_ - 1)) = 0 then some (0, p6.2) else zoS (sh o) 0 (fun le11 => Option.bind ((p6.2).2.2 o 5) (fun a12 => zoS (sh a12) 8 (fun le14 => Option.bind ((p6.2).2.2 a12 4) (fun a15 => zoR (sh a15) (fun t19 le17 => if (x0_ : Int32) < 0 ∨ le17 ≤ (x0_ : Int32).toNatClampNeg then none else Option.bind ((p6.2).2.2 a15 (x0_ : Int32).toNatClampNeg) (fun a20 => zoS (sh a20) 3 (fun le22 => zoL (mI (p6.2) a20 0 x1_) (fun mm23 => zoS (sh o) 0 (fun le25 => Option.bind (mm23.2.2 o 5) (fun a26 => zoS (sh a26) 8 (fun le28 => zoL (mI mm23 a26 9 0) (fun mm29 => some (1, mm29)))))))))))))))))))
set_option maxHeartbeats 4000000 in
set_option maxRecDepth 100000 in
theorem k_OB_hang (l : Launch) (D : va_G) (tA : Nat → ClassId) (b : Nat) (sh : zSh) (n : Nat) {mm : zMem} {o : Nat} {x0_ : Int32} {x1_ : Int32} {r : (Int32 × zMem)} (h : F_OB_hang sh mm o x0_ x1_ = some r) : zM l D tA b zy_OB_hang zb_OB_hang 3 (some .boolean) 1 22 0 0 [.ref (b + o), .int x0_, .int x1_] (zW tA b sh mm) n (zE (some (.int (r.1))) (zW tA b sh r.2) n) := by
  unfold F_OB_hang at h
  refine zM_of (own := "OrreryBox") (plainFor_of_name (by decide)) rfl (Nat.le_of_ble_eq_true rfl) (fun p e s m below meth c F hr hin hH => ?_)
  refine zr_aload_n F zd_OB_hang_0 rfl ?_
  obtain ⟨le2, hs1, h⟩ := zoS_s h
  obtain ⟨a3, ea3, h⟩ := zoB_s h
  refine zr_get F 0 5 zd_OB_hang_1 (zW_o hs1 (by decide)) rfl (by decide) zw_493 rfl (by rfl) ?_
  refine zr_tor ea3 ?_
  refine zr_iload_n F zd_OB_hang_4 rfl ?_
  obtain ⟨le5, hs4, h⟩ := zoS_s h
  obtain ⟨p6, ep6, h⟩ := zoB_s h
  refine zr_callV1 F (k_XScene_hasNode l D tA b sh _ ep6) zd_OB_hang_5 (zW_o hs4 (by decide)) rfl zs_OB_105 rfl zq_XScene_hasNode rfl rfl ⟨(Nat.le_of_ble_eq_true rfl), (Nat.le_of_ble_eq_true rfl)⟩ (Nat.le_of_ble_eq_true rfl) ⟨(Nat.le_of_ble_eq_true rfl), (Nat.le_of_ble_eq_true rfl)⟩ ?_
  refine zr_if_eq F 22 zd_OB_hang_8 (by decide) (fun hb7 => ?_) (fun hb7 => ?_)
  ·
    rw [if_pos hb7] at h
    refine zr_iconstv (v := 0) F zd_OB_hang_22 (by decide) ?_
    obtain rfl := Option.some.inj h
    exact zr_zret F hr rfl zd_OB_hang_23 (Nat.le_of_ble_eq_true rfl) (Nat.le_of_ble_eq_true rfl) ⟨rfl, rfl, rfl⟩
  ·
    rw [if_neg hb7] at h
    refine zr_pcn 11 rfl ?_
    refine zr_iload_n F zd_OB_hang_11 rfl ?_
    refine zr_iconstv (v := (-1)) F zd_OB_hang_12 (by decide) ?_
    refine zr_iload_n F zd_OB_hang_13 rfl ?_
    refine zr_iconstv (v := 1) F zd_OB_hang_14 (by decide) ?_
    refine zr_isub F zd_OB_hang_15 ?_
    refine zr_callS1 F (c_OB_within l D tA b _ _ x1_ (-1) (x0_ - 1)) zd_OB_hang_16 zs_OB_97 zq_OB_within rfl rfl ⟨(Nat.le_of_ble_eq_true rfl), (Nat.le_of_ble_eq_true rfl)⟩ (Nat.le_of_ble_eq_true rfl) ⟨(Nat.le_of_ble_eq_true rfl), (Nat.le_of_ble_eq_true rfl)⟩ ?_
    refine zr_if_ne F 24 zd_OB_hang_19 (by decide) (fun hb9 => ?_) (fun hb9 => ?_)
    ·
      rw [if_neg hb9] at h
      refine zr_aload_n F zd_OB_hang_24 rfl ?_
      refine zr_pcn 25 rfl ?_
      obtain ⟨le11, hs10, h⟩ := zoS_s h
      obtain ⟨a12, ea12, h⟩ := zoB_s h
      refine zr_get F 0 5 zd_OB_hang_25 (zW_o hs10 (by decide)) rfl (by decide) zw_493 rfl (by rfl) ?_
      refine zr_tor ea12 ?_
      obtain ⟨le14, hs13, h⟩ := zoS_s h
      obtain ⟨a15, ea15, h⟩ := zoB_s h
      refine zr_get F 8 4 zd_OB_hang_28 (zW_o hs13 (by decide)) rfl (by decide) zw_298 rfl (by rfl) ?_
      refine zr_tor ea15 ?_
      refine zr_iload_n F zd_OB_hang_31 rfl ?_
      obtain ⟨t19, le17, hs16, h⟩ := zoR_s h
      obtain ⟨hi18, h⟩ := zoI_s h
      obtain ⟨a20, ea20, h⟩ := zoB_s h
      refine zr_aaldW F zd_OB_hang_32 hs16 hi18 ea20 ?_
      refine zr_iload_n F zd_OB_hang_33 rfl ?_
      obtain ⟨le22, hs21, h⟩ := zoS_s h
      refine zr_put F 3 0 zd_OB_hang_34 (zW_o hs21 (by decide)) rfl (by decide) zw_216 rfl rfl rfl rfl (by exact (Nat.le_of_ble_eq_true rfl)) ?_
      obtain ⟨mm23, emm23, h⟩ := zoL_s h
      refine zr_norm (zW tA b sh mm23) _ (by rw [emm23]; exact zW_pI (v := x1_) hs21 (by decide) (zf_I_3_0 b _ _ _)) rfl ?_
      refine zr_aload_n F zd_OB_hang_37 rfl ?_
      obtain ⟨le25, hs24, h⟩ := zoS_s h
      obtain ⟨a26, ea26, h⟩ := zoB_s h
      refine zr_get F 0 5 zd_OB_hang_38 (zW_o hs24 (by decide)) rfl (by decide) zw_493 rfl (by rfl) ?_
      refine zr_tor ea26 ?_
      refine zr_pcn 41 rfl ?_
      refine zr_iconstv (v := 0) F zd_OB_hang_41 (by decide) ?_
      obtain ⟨le28, hs27, h⟩ := zoS_s h
      refine zr_put F 8 9 zd_OB_hang_42 (zW_o hs27 (by decide)) rfl (by decide) zw_312 rfl rfl rfl rfl (by exact (Nat.le_of_ble_eq_true rfl)) ?_
      obtain ⟨mm29, emm29, h⟩ := zoL_s h
      refine zr_norm (zW tA b sh mm29) _ (by rw [emm29]; exact zW_pI (v := 0) hs27 (by decide) (zf_I_8_9 b _ _ _)) rfl ?_
      refine zr_iconstv (v := 1) F zd_OB_hang_45 (by decide) ?_
      obtain rfl := Option.some.inj h
      exact zr_zret F hr rfl zd_OB_hang_46 (Nat.le_of_ble_eq_true rfl) (Nat.le_of_ble_eq_true rfl) ⟨rfl, rfl, rfl⟩
    ·
      rw [if_pos hb9] at h
      refine zr_iconstv (v := 0) F zd_OB_hang_22 (by decide) ?_
      obtain rfl := Option.some.inj h
      exact zr_zret F hr rfl zd_OB_hang_23 (Nat.le_of_ble_eq_true rfl) (Nat.le_of_ble_eq_true rfl) ⟨rfl, rfl, rfl⟩
theorem zw_222 : (Jvm.Cond.fieldLink "OrreryBox" (133 : Nat) "OrreryBox$Node" "hidden" "Z") ∈ gw := gw_t 222 (by decide +kernel) rfl
theorem zf_I_3_2 (b : Nat) (m : zMem) (k : Nat) (v : Int32) : (zfl b 3 m k).set 2 (.int v) = zfl b 3 (mI m k 2 v) k := by simp [zfl, mI, upd, vp_updL]
def F_OB_hide (sh : zSh) (mm : zMem) (o : Nat) (x0_ : Int32) (x1_ : Int32) : Option (Int32 × zMem) := zoS (sh o) 0 (fun le2 => Option.bind (mm.2.2 o 5) (fun a3 => zoS (sh a3) 8 (fun le5 => Option.bind (F_XScene_hasNode sh mm a3 x0_) (fun p6 => (if p6.1 = 0 then some (0, p6.2) else zoS (sh o) 0 (fun le9 => Option.bind ((p6.2).2.2 o 5) (fun a10 => zoS (sh a10) 8 (fun le12 => Option.bind ((p6.2).2.2 a10 4) (fun a13 => zoR (sh a13) (fun t17 le15 => if (x0_ : Int32) < 0 ∨ le15 ≤ (x0_ : Int32).toNatClampNeg then none else Option.bind ((p6.2).2.2 a13 (x0_ : Int32).toNatClampNeg) (fun a18 => (if x1_ = 0 ∨ x1_ = 1 then zoS (sh a18) 3 (fun le21 => zoL (mI (p6.2) a18 2 x1_) (fun mm22 => zoS (sh o) 0 (fun le24 => Option.bind (mm22.2.2 o 5) (fun a25 => zoS (sh a25) 8 (fun le27 => zoL (mI mm22 a25 9 0) (fun mm28 => some (1, mm28))))))) else none))))))))))))
set_option maxHeartbeats 4000000 in
set_option maxRecDepth 100000 in
theorem k_OB_hide (l : Launch) (D : va_G) (tA : Nat → ClassId) (b : Nat) (sh : zSh) (n : Nat) {mm : zMem} {o : Nat} {x0_ : Int32} {x1_ : Int32} {r : (Int32 × zMem)} (h : F_OB_hide sh mm o x0_ x1_ = some r) : zM l D tA b zy_OB_hide zb_OB_hide 3 (some .boolean) 1 21 0 0 [.ref (b + o), .int x0_, .int x1_] (zW tA b sh mm) n (zE (some (.int (r.1))) (zW tA b sh r.2) n) := by
  unfold F_OB_hide at h
  refine zM_of (own := "OrreryBox") (plainFor_of_name (by decide)) rfl (Nat.le_of_ble_eq_true rfl) (fun p e s m below meth c F hr hin hH => ?_)
  refine zr_aload_n F zd_OB_hide_0 rfl ?_
  obtain ⟨le2, hs1, h⟩ := zoS_s h
  obtain ⟨a3, ea3, h⟩ := zoB_s h
  refine zr_get F 0 5 zd_OB_hide_1 (zW_o hs1 (by decide)) rfl (by decide) zw_493 rfl (by rfl) ?_
  refine zr_tor ea3 ?_
  refine zr_iload_n F zd_OB_hide_4 rfl ?_
  obtain ⟨le5, hs4, h⟩ := zoS_s h
  obtain ⟨p6, ep6, h⟩ := zoB_s h
  refine zr_callV1 F (k_XScene_hasNode l D tA b sh _ ep6) zd_OB_hide_5 (zW_o hs4 (by decide)) rfl zs_OB_105 rfl zq_XScene_hasNode rfl rfl ⟨(Nat.le_of_ble_eq_true rfl), (Nat.le_of_ble_eq_true rfl)⟩ (Nat.le_of_ble_eq_true rfl) ⟨(Nat.le_of_ble_eq_true rfl), (Nat.le_of_ble_eq_true rfl)⟩ ?_
  refine zr_if_ne F 13 zd_OB_hide_8 (by decide) (fun hb7 => ?_) (fun hb7 => ?_)
  ·
    rw [if_neg hb7] at h
    refine zr_aload_n F zd_OB_hide_13 rfl ?_
    obtain ⟨le9, hs8, h⟩ := zoS_s h
    obtain ⟨a10, ea10, h⟩ := zoB_s h
    refine zr_get F 0 5 zd_OB_hide_14 (zW_o hs8 (by decide)) rfl (by decide) zw_493 rfl (by rfl) ?_
    refine zr_tor ea10 ?_
    refine zr_pcn 17 rfl ?_
    obtain ⟨le12, hs11, h⟩ := zoS_s h
    obtain ⟨a13, ea13, h⟩ := zoB_s h
    refine zr_get F 8 4 zd_OB_hide_17 (zW_o hs11 (by decide)) rfl (by decide) zw_298 rfl (by rfl) ?_
    refine zr_tor ea13 ?_
    refine zr_iload_n F zd_OB_hide_20 rfl ?_
    obtain ⟨t17, le15, hs14, h⟩ := zoR_s h
    obtain ⟨hi16, h⟩ := zoI_s h
    obtain ⟨a18, ea18, h⟩ := zoB_s h
    refine zr_aaldW F zd_OB_hide_21 hs14 hi16 ea18 ?_
    refine zr_iload_n F zd_OB_hide_22 rfl ?_
    obtain ⟨hn19, h⟩ := zoT_s h
    obtain ⟨le21, hs20, h⟩ := zoS_s h
    refine zr_put F 3 2 zd_OB_hide_23 (zW_o hs20 (by decide)) rfl (by decide) zw_222 rfl rfl (zx_narW hn19) (zx_fitW hn19) (by exact (Nat.le_of_ble_eq_true rfl)) ?_
    obtain ⟨mm22, emm22, h⟩ := zoL_s h
    refine zr_norm (zW tA b sh mm22) _ (by rw [emm22]; exact zW_pI (v := x1_) hs20 (by decide) (zf_I_3_2 b _ _ _)) rfl ?_
    refine zr_aload_n F zd_OB_hide_26 rfl ?_
    obtain ⟨le24, hs23, h⟩ := zoS_s h
    obtain ⟨a25, ea25, h⟩ := zoB_s h
    refine zr_get F 0 5 zd_OB_hide_27 (zW_o hs23 (by decide)) rfl (by decide) zw_493 rfl (by rfl) ?_
    refine zr_tor ea25 ?_
    refine zr_iconstv (v := 0) F zd_OB_hide_30 (by decide) ?_
    refine zr_pcn 31 rfl ?_
    obtain ⟨le27, hs26, h⟩ := zoS_s h
    refine zr_put F 8 9 zd_OB_hide_31 (zW_o hs26 (by decide)) rfl (by decide) zw_312 rfl rfl rfl rfl (by exact (Nat.le_of_ble_eq_true rfl)) ?_
    obtain ⟨mm28, emm28, h⟩ := zoL_s h
    refine zr_norm (zW tA b sh mm28) _ (by rw [emm28]; exact zW_pI (v := 0) hs26 (by decide) (zf_I_8_9 b _ _ _)) rfl ?_
    refine zr_iconstv (v := 1) F zd_OB_hide_34 (by decide) ?_
    obtain rfl := Option.some.inj h
    exact zr_zret F hr rfl zd_OB_hide_35 (Nat.le_of_ble_eq_true rfl) (Nat.le_of_ble_eq_true rfl) ⟨rfl, rfl, rfl⟩
  ·
    rw [if_pos hb7] at h
    refine zr_iconstv (v := 0) F zd_OB_hide_11 (by decide) ?_
    obtain rfl := Option.some.inj h
    exact zr_zret F hr rfl zd_OB_hide_12 (Nat.le_of_ble_eq_true rfl) (Nat.le_of_ble_eq_true rfl) ⟨rfl, rfl, rfl⟩
theorem zw_432 : (Jvm.Cond.fieldLink "OrreryBox" (195 : Nat) "OrreryBox$Picture" "colours" "[I") ∈ gw := gw_t 432 (by decide +kernel) rfl
def F_OB_pixel (sh : zSh) (mm : zMem) (o : Nat) (x0_ : Int32) (x1_ : Int32) : Option (Int32 × zMem) := zoS (sh o) 0 (fun le2 => Option.bind (F_OB_hasPixel sh mm o x0_ x1_) (fun p3 => (if p3.1 = 0 then some ((-1), p3.2) else zoS (sh o) 0 (fun le6 => Option.bind ((p3.2).2.2 o 8) (fun a7 => zoS (sh a7) 5 (fun le9 => Option.bind (F_XPicture_shows sh (p3.2) a7 x0_ x1_) (fun p10 => (if p10.1 = 0 then some ((-1), p10.2) else zoS (sh o) 0 (fun le13 => Option.bind ((p10.2).2.2 o 8) (fun a14 => zoS (sh a14) 5 (fun le16 => Option.bind ((p10.2).2.2 a14 1) (fun a17 => zoS (sh o) 0 (fun le19 => zoL ((x1_ * ((p10.2).1 o 0)) + x0_) (fun i20 => zoS (sh a17) 100 (fun le22 => if (i20 : Int32) < 0 ∨ le22 ≤ (i20 : Int32).toNatClampNeg then none else some (((p10.2).1 a17 (i20 : Int32).toNatClampNeg), p10.2))))))))))))))))
set_option maxHeartbeats 4000000 in
set_option maxRecDepth 100000 in
theorem k_OB_pixel (l : Launch) (D : va_G) (tA : Nat → ClassId) (b : Nat) (sh : zSh) (n : Nat) {mm : zMem} {o : Nat} {x0_ : Int32} {x1_ : Int32} {r : (Int32 × zMem)} (h : F_OB_pixel sh mm o x0_ x1_ = some r) : zM l D tA b zy_OB_pixel zb_OB_pixel 3 (some .int) 2 44 0 0 [.ref (b + o), .int x0_, .int x1_] (zW tA b sh mm) n (zE (some (.int (r.1))) (zW tA b sh r.2) n) := by
  unfold F_OB_pixel at h
  refine zM_of (own := "OrreryBox") (plainFor_of_name (by decide)) rfl (Nat.le_of_ble_eq_true rfl) (fun p e s m below meth c F hr hin hH => ?_)
  refine zr_aload_n F zd_OB_pixel_0 rfl ?_
  refine zr_iload_n F zd_OB_pixel_1 rfl ?_
  refine zr_iload_n F zd_OB_pixel_2 rfl ?_
  obtain ⟨le2, hs1, h⟩ := zoS_s h
  obtain ⟨p3, ep3, h⟩ := zoB_s h
  refine zr_callV1 F (k_OB_hasPixel l D tA b sh _ ep3) zd_OB_pixel_3 (zW_o hs1 (by decide)) rfl zs_OB_188 rfl zq_OB_hasPixel rfl rfl ⟨(Nat.le_of_ble_eq_true rfl), (Nat.le_of_ble_eq_true rfl)⟩ (Nat.le_of_ble_eq_true rfl) ⟨(Nat.le_of_ble_eq_true rfl), (Nat.le_of_ble_eq_true rfl)⟩ ?_
  refine zr_if_eq F 40 zd_OB_pixel_6 (by decide) (fun hb4 => ?_) (fun hb4 => ?_)
  ·
    rw [if_pos hb4] at h
    refine zr_iconstv (v := (-1)) F zd_OB_pixel_40 (by decide) ?_
    obtain rfl := Option.some.inj h
    exact zr_iret F hr zd_OB_pixel_41 (Nat.le_of_ble_eq_true rfl) (Nat.le_of_ble_eq_true rfl) ⟨rfl, rfl, rfl⟩
  ·
    rw [if_neg hb4] at h
    refine zr_pcn 9 rfl ?_
    refine zr_aload_n F zd_OB_pixel_9 rfl ?_
    obtain ⟨le6, hs5, h⟩ := zoS_s h
    obtain ⟨a7, ea7, h⟩ := zoB_s h
    refine zr_get F 0 8 zd_OB_pixel_10 (zW_o hs5 (by decide)) rfl (by decide) zw_496 rfl (by rfl) ?_
    refine zr_tor ea7 ?_
    refine zr_iload_n F zd_OB_pixel_13 rfl ?_
    refine zr_iload_n F zd_OB_pixel_14 rfl ?_
    obtain ⟨le9, hs8, h⟩ := zoS_s h
    obtain ⟨p10, ep10, h⟩ := zoB_s h
    refine zr_callV1 F (k_XPicture_shows l D tA b sh _ ep10) zd_OB_pixel_15 (zW_o hs8 (by decide)) rfl zs_OB_192 rfl zq_XPicture_shows rfl rfl ⟨(Nat.le_of_ble_eq_true rfl), (Nat.le_of_ble_eq_true rfl)⟩ (Nat.le_of_ble_eq_true rfl) ⟨(Nat.le_of_ble_eq_true rfl), (Nat.le_of_ble_eq_true rfl)⟩ ?_
    refine zr_if_eq F 40 zd_OB_pixel_18 (by decide) (fun hb11 => ?_) (fun hb11 => ?_)
    ·
      rw [if_pos hb11] at h
      refine zr_iconstv (v := (-1)) F zd_OB_pixel_40 (by decide) ?_
      obtain rfl := Option.some.inj h
      exact zr_iret F hr zd_OB_pixel_41 (Nat.le_of_ble_eq_true rfl) (Nat.le_of_ble_eq_true rfl) ⟨rfl, rfl, rfl⟩
    ·
      rw [if_neg hb11] at h
      refine zr_pcn 21 rfl ?_
      refine zr_aload_n F zd_OB_pixel_21 rfl ?_
      obtain ⟨le13, hs12, h⟩ := zoS_s h
      obtain ⟨a14, ea14, h⟩ := zoB_s h
      refine zr_get F 0 8 zd_OB_pixel_22 (zW_o hs12 (by decide)) rfl (by decide) zw_496 rfl (by rfl) ?_
      refine zr_tor ea14 ?_
      obtain ⟨le16, hs15, h⟩ := zoS_s h
      obtain ⟨a17, ea17, h⟩ := zoB_s h
      refine zr_get F 5 1 zd_OB_pixel_25 (zW_o hs15 (by decide)) rfl (by decide) zw_432 rfl (by rfl) ?_
      refine zr_tor ea17 ?_
      refine zr_iload_n F zd_OB_pixel_28 rfl ?_
      refine zr_aload_n F zd_OB_pixel_29 rfl ?_
      obtain ⟨le19, hs18, h⟩ := zoS_s h
      refine zr_get F 0 0 zd_OB_pixel_30 (zW_o hs18 (by decide)) rfl (by decide) zw_488 rfl (by rfl) ?_
      refine zr_imul F zd_OB_pixel_33 ?_
      refine zr_iload_n F zd_OB_pixel_34 rfl ?_
      refine zr_pcn 35 rfl ?_
      refine zr_iadd F zd_OB_pixel_35 ?_
      obtain ⟨i20, ei20, h⟩ := zoL_s h
      rw [← ei20]
      obtain ⟨le22, hs21, h⟩ := zoS_s h
      obtain ⟨hi23, h⟩ := zoI_s h
      refine zr_iald F zd_OB_pixel_36 (zW_a0 hs21) hi23 ?_
      refine zr_goto F 41 zd_OB_pixel_37 (by decide) ?_
      obtain rfl := Option.some.inj h
      exact zr_iret F hr zd_OB_pixel_41 (Nat.le_of_ble_eq_true rfl) (Nat.le_of_ble_eq_true rfl) ⟨rfl, rfl, rfl⟩
theorem zw_434 : (Jvm.Cond.fieldLink "OrreryBox" (198 : Nat) "OrreryBox$Picture" "nears" "[I") ∈ gw := gw_t 434 (by decide +kernel) rfl
def F_OB_nearness (sh : zSh) (mm : zMem) (o : Nat) (x0_ : Int32) (x1_ : Int32) : Option (Int32 × zMem) := zoS (sh o) 0 (fun le2 => Option.bind (F_OB_hasPixel sh mm o x0_ x1_) (fun p3 => (if p3.1 = 0 then some ((-1), p3.2) else zoS (sh o) 0 (fun le6 => Option.bind ((p3.2).2.2 o 8) (fun a7 => zoS (sh a7) 5 (fun le9 => Option.bind (F_XPicture_shows sh (p3.2) a7 x0_ x1_) (fun p10 => (if p10.1 = 0 then some ((-1), p10.2) else zoS (sh o) 0 (fun le13 => Option.bind ((p10.2).2.2 o 8) (fun a14 => zoS (sh a14) 5 (fun le16 => Option.bind ((p10.2).2.2 a14 2) (fun a17 => zoS (sh o) 0 (fun le19 => zoL ((x1_ * ((p10.2).1 o 0)) + x0_) (fun i20 => zoS (sh a17) 100 (fun le22 => if (i20 : Int32) < 0 ∨ le22 ≤ (i20 : Int32).toNatClampNeg then none else some (((p10.2).1 a17 (i20 : Int32).toNatClampNeg), p10.2))))))))))))))))
set_option maxHeartbeats 4000000 in
set_option maxRecDepth 100000 in
theorem k_OB_nearness (l : Launch) (D : va_G) (tA : Nat → ClassId) (b : Nat) (sh : zSh) (n : Nat) {mm : zMem} {o : Nat} {x0_ : Int32} {x1_ : Int32} {r : (Int32 × zMem)} (h : F_OB_nearness sh mm o x0_ x1_ = some r) : zM l D tA b zy_OB_nearness zb_OB_nearness 3 (some .int) 2 44 0 0 [.ref (b + o), .int x0_, .int x1_] (zW tA b sh mm) n (zE (some (.int (r.1))) (zW tA b sh r.2) n) := by
  unfold F_OB_nearness at h
  refine zM_of (own := "OrreryBox") (plainFor_of_name (by decide)) rfl (Nat.le_of_ble_eq_true rfl) (fun p e s m below meth c F hr hin hH => ?_)
  refine zr_aload_n F zd_OB_nearness_0 rfl ?_
  refine zr_iload_n F zd_OB_nearness_1 rfl ?_
  refine zr_iload_n F zd_OB_nearness_2 rfl ?_
  obtain ⟨le2, hs1, h⟩ := zoS_s h
  obtain ⟨p3, ep3, h⟩ := zoB_s h
  refine zr_callV1 F (k_OB_hasPixel l D tA b sh _ ep3) zd_OB_nearness_3 (zW_o hs1 (by decide)) rfl zs_OB_188 rfl zq_OB_hasPixel rfl rfl ⟨(Nat.le_of_ble_eq_true rfl), (Nat.le_of_ble_eq_true rfl)⟩ (Nat.le_of_ble_eq_true rfl) ⟨(Nat.le_of_ble_eq_true rfl), (Nat.le_of_ble_eq_true rfl)⟩ ?_
  refine zr_if_eq F 40 zd_OB_nearness_6 (by decide) (fun hb4 => ?_) (fun hb4 => ?_)
  ·
    rw [if_pos hb4] at h
    refine zr_iconstv (v := (-1)) F zd_OB_nearness_40 (by decide) ?_
    obtain rfl := Option.some.inj h
    exact zr_iret F hr zd_OB_nearness_41 (Nat.le_of_ble_eq_true rfl) (Nat.le_of_ble_eq_true rfl) ⟨rfl, rfl, rfl⟩
  ·
    rw [if_neg hb4] at h
    refine zr_pcn 9 rfl ?_
    refine zr_aload_n F zd_OB_nearness_9 rfl ?_
    obtain ⟨le6, hs5, h⟩ := zoS_s h
    obtain ⟨a7, ea7, h⟩ := zoB_s h
    refine zr_get F 0 8 zd_OB_nearness_10 (zW_o hs5 (by decide)) rfl (by decide) zw_496 rfl (by rfl) ?_
    refine zr_tor ea7 ?_
    refine zr_iload_n F zd_OB_nearness_13 rfl ?_
    refine zr_iload_n F zd_OB_nearness_14 rfl ?_
    obtain ⟨le9, hs8, h⟩ := zoS_s h
    obtain ⟨p10, ep10, h⟩ := zoB_s h
    refine zr_callV1 F (k_XPicture_shows l D tA b sh _ ep10) zd_OB_nearness_15 (zW_o hs8 (by decide)) rfl zs_OB_192 rfl zq_XPicture_shows rfl rfl ⟨(Nat.le_of_ble_eq_true rfl), (Nat.le_of_ble_eq_true rfl)⟩ (Nat.le_of_ble_eq_true rfl) ⟨(Nat.le_of_ble_eq_true rfl), (Nat.le_of_ble_eq_true rfl)⟩ ?_
    refine zr_if_eq F 40 zd_OB_nearness_18 (by decide) (fun hb11 => ?_) (fun hb11 => ?_)
    ·
      rw [if_pos hb11] at h
      refine zr_iconstv (v := (-1)) F zd_OB_nearness_40 (by decide) ?_
      obtain rfl := Option.some.inj h
      exact zr_iret F hr zd_OB_nearness_41 (Nat.le_of_ble_eq_true rfl) (Nat.le_of_ble_eq_true rfl) ⟨rfl, rfl, rfl⟩
    ·
      rw [if_neg hb11] at h
      refine zr_pcn 21 rfl ?_
      refine zr_aload_n F zd_OB_nearness_21 rfl ?_
      obtain ⟨le13, hs12, h⟩ := zoS_s h
      obtain ⟨a14, ea14, h⟩ := zoB_s h
      refine zr_get F 0 8 zd_OB_nearness_22 (zW_o hs12 (by decide)) rfl (by decide) zw_496 rfl (by rfl) ?_
      refine zr_tor ea14 ?_
      obtain ⟨le16, hs15, h⟩ := zoS_s h
      obtain ⟨a17, ea17, h⟩ := zoB_s h
      refine zr_get F 5 2 zd_OB_nearness_25 (zW_o hs15 (by decide)) rfl (by decide) zw_434 rfl (by rfl) ?_
      refine zr_tor ea17 ?_
      refine zr_iload_n F zd_OB_nearness_28 rfl ?_
      refine zr_aload_n F zd_OB_nearness_29 rfl ?_
      obtain ⟨le19, hs18, h⟩ := zoS_s h
      refine zr_get F 0 0 zd_OB_nearness_30 (zW_o hs18 (by decide)) rfl (by decide) zw_488 rfl (by rfl) ?_
      refine zr_imul F zd_OB_nearness_33 ?_
      refine zr_iload_n F zd_OB_nearness_34 rfl ?_
      refine zr_pcn 35 rfl ?_
      refine zr_iadd F zd_OB_nearness_35 ?_
      obtain ⟨i20, ei20, h⟩ := zoL_s h
      rw [← ei20]
      obtain ⟨le22, hs21, h⟩ := zoS_s h
      obtain ⟨hi23, h⟩ := zoI_s h
      refine zr_iald F zd_OB_nearness_36 (zW_a0 hs21) hi23 ?_
      refine zr_goto F 41 zd_OB_nearness_37 (by decide) ?_
      obtain rfl := Option.some.inj h
      exact zr_iret F hr zd_OB_nearness_41 (Nat.le_of_ble_eq_true rfl) (Nat.le_of_ble_eq_true rfl) ⟨rfl, rfl, rfl⟩
def F_MD_feed (sh : zSh) (mm : zMem) (o : Nat) (x0_ : Int32) (x1_ : Int32) (x2_ : Int32) (x3_ : Int32) (x4_ : Int32) : Option (Int32 × zMem) := zoS (sh o) 1 (fun le2 => zoL (mI mm o 11 0) (fun mm3 => zoS (sh o) 1 (fun le5 => (if ((mm3.1 o 3) + 20) ≤ 65536 then zoS (sh o) 1 (fun le8 => Option.bind (F_MD_feedOne sh mm3 o x0_) (fun p9 => zoS (sh o) 1 (fun le11 => Option.bind (F_MD_feedOne sh p9 o x1_) (fun p12 => zoS (sh o) 1 (fun le14 => Option.bind (F_MD_feedOne sh p12 o x2_) (fun p15 => zoS (sh o) 1 (fun le17 => Option.bind (F_MD_feedOne sh p15 o x3_) (fun p18 => zoS (sh o) 1 (fun le20 => Option.bind (F_MD_feedOne sh p18 o x4_) (fun p21 => some (1, p21))))))))))) else some (0, mm3)))))
set_option maxHeartbeats 4000000 in
set_option maxRecDepth 100000 in
theorem k_MD_feed (l : Launch) (D : va_G) (tA : Nat → ClassId) (b : Nat) (sh : zSh) (n : Nat) {mm : zMem} {o : Nat} {x0_ : Int32} {x1_ : Int32} {x2_ : Int32} {x3_ : Int32} {x4_ : Int32} {r : (Int32 × zMem)} (h : F_MD_feed sh mm o x0_ x1_ x2_ x3_ x4_ = some r) : zM l D tA b zy_MD_feed zb_MD_feed 6 (some .boolean) 1 22 0 0 [.ref (b + o), .int x0_, .int x1_, .int x2_, .int x3_, .int x4_] (zW tA b sh mm) n (zE (some (.int (r.1))) (zW tA b sh r.2) n) := by
  unfold F_MD_feed at h
  refine zM_of (own := "OrreryBoxModel") (plainFor_of_name (by decide)) rfl (Nat.le_of_ble_eq_true rfl) (fun p e s m below meth c F hr hin hH => ?_)
  refine zr_aload_n F zd_MD_feed_0 rfl ?_
  refine zr_iconstv (v := 0) F zd_MD_feed_1 (by decide) ?_
  obtain ⟨le2, hs1, h⟩ := zoS_s h
  refine zr_put F 1 11 zd_MD_feed_2 (zW_o hs1 (by decide)) rfl (by decide) zw_1691 rfl rfl rfl rfl (by exact (Nat.le_of_ble_eq_true rfl)) ?_
  obtain ⟨mm3, emm3, h⟩ := zoL_s h
  refine zr_norm (zW tA b sh mm3) _ (by rw [emm3]; exact zW_pI (v := 0) hs1 (by decide) (zf_I_1_11 b _ _ _)) rfl ?_
  refine zr_aload_n F zd_MD_feed_5 rfl ?_
  obtain ⟨le5, hs4, h⟩ := zoS_s h
  refine zr_get F 1 3 zd_MD_feed_6 (zW_o hs4 (by decide)) rfl (by decide) zw_1683 rfl (by rfl) ?_
  refine zr_bipushv (v := 20) F zd_MD_feed_9 (by decide) ?_
  refine zr_iadd F zd_MD_feed_11 ?_
  refine zr_pcn 12 rfl ?_
  refine zr_ldc F zd_MD_feed_12 zw_1308 ?_
  refine zr_icmp_le F 19 zd_MD_feed_14 (by decide) (fun hb6 => ?_) (fun hb6 => ?_)
  ·
    rw [if_pos hb6] at h
    refine zr_aload_n F zd_MD_feed_19 rfl ?_
    refine zr_iload_n F zd_MD_feed_20 rfl ?_
    obtain ⟨le8, hs7, h⟩ := zoS_s h
    obtain ⟨p9, ep9, h⟩ := zoB_s h
    refine zr_callV0 F (k_MD_feedOne l D tA b sh _ ep9) zd_MD_feed_21 (zW_o hs7 (by decide)) rfl zs_MD_86 rfl zq_MD_feedOne rfl rfl ⟨(Nat.le_of_ble_eq_true rfl), (Nat.le_of_ble_eq_true rfl)⟩ (Nat.le_of_ble_eq_true rfl) ⟨(Nat.le_of_ble_eq_true rfl), (Nat.le_of_ble_eq_true rfl)⟩ ?_
    refine zr_aload_n F zd_MD_feed_24 rfl ?_
    refine zr_iload_n F zd_MD_feed_25 rfl ?_
    obtain ⟨le11, hs10, h⟩ := zoS_s h
    obtain ⟨p12, ep12, h⟩ := zoB_s h
    refine zr_callV0 F (k_MD_feedOne l D tA b sh _ ep12) zd_MD_feed_26 (zW_o hs10 (by decide)) rfl zs_MD_86 rfl zq_MD_feedOne rfl rfl ⟨(Nat.le_of_ble_eq_true rfl), (Nat.le_of_ble_eq_true rfl)⟩ (Nat.le_of_ble_eq_true rfl) ⟨(Nat.le_of_ble_eq_true rfl), (Nat.le_of_ble_eq_true rfl)⟩ ?_
    refine zr_pcn 29 rfl ?_
    refine zr_aload_n F zd_MD_feed_29 rfl ?_
    refine zr_iload_n F zd_MD_feed_30 rfl ?_
    obtain ⟨le14, hs13, h⟩ := zoS_s h
    obtain ⟨p15, ep15, h⟩ := zoB_s h
    refine zr_callV0 F (k_MD_feedOne l D tA b sh _ ep15) zd_MD_feed_31 (zW_o hs13 (by decide)) rfl zs_MD_86 rfl zq_MD_feedOne rfl rfl ⟨(Nat.le_of_ble_eq_true rfl), (Nat.le_of_ble_eq_true rfl)⟩ (Nat.le_of_ble_eq_true rfl) ⟨(Nat.le_of_ble_eq_true rfl), (Nat.le_of_ble_eq_true rfl)⟩ ?_
    refine zr_aload_n F zd_MD_feed_34 rfl ?_
    refine zr_iload F zd_MD_feed_35 rfl ?_
    obtain ⟨le17, hs16, h⟩ := zoS_s h
    obtain ⟨p18, ep18, h⟩ := zoB_s h
    refine zr_callV0 F (k_MD_feedOne l D tA b sh _ ep18) zd_MD_feed_37 (zW_o hs16 (by decide)) rfl zs_MD_86 rfl zq_MD_feedOne rfl rfl ⟨(Nat.le_of_ble_eq_true rfl), (Nat.le_of_ble_eq_true rfl)⟩ (Nat.le_of_ble_eq_true rfl) ⟨(Nat.le_of_ble_eq_true rfl), (Nat.le_of_ble_eq_true rfl)⟩ ?_
    refine zr_aload_n F zd_MD_feed_40 rfl ?_
    refine zr_iload F zd_MD_feed_41 rfl ?_
    refine zr_pcn 43 rfl ?_
    obtain ⟨le20, hs19, h⟩ := zoS_s h
    obtain ⟨p21, ep21, h⟩ := zoB_s h
    refine zr_callV0 F (k_MD_feedOne l D tA b sh _ ep21) zd_MD_feed_43 (zW_o hs19 (by decide)) rfl zs_MD_86 rfl zq_MD_feedOne rfl rfl ⟨(Nat.le_of_ble_eq_true rfl), (Nat.le_of_ble_eq_true rfl)⟩ (Nat.le_of_ble_eq_true rfl) ⟨(Nat.le_of_ble_eq_true rfl), (Nat.le_of_ble_eq_true rfl)⟩ ?_
    refine zr_iconstv (v := 1) F zd_MD_feed_46 (by decide) ?_
    obtain rfl := Option.some.inj h
    exact zr_zret F hr rfl zd_MD_feed_47 (Nat.le_of_ble_eq_true rfl) (Nat.le_of_ble_eq_true rfl) ⟨rfl, rfl, rfl⟩
  ·
    rw [if_neg hb6] at h
    refine zr_iconstv (v := 0) F zd_MD_feed_17 (by decide) ?_
    obtain rfl := Option.some.inj h
    exact zr_zret F hr rfl zd_MD_feed_18 (Nat.le_of_ble_eq_true rfl) (Nat.le_of_ble_eq_true rfl) ⟨rfl, rfl, rfl⟩
theorem zw_1965 : (Jvm.Cond.methodLink "OrreryBoxModel" (139 : Nat) ({ cls := "OrreryBoxModel$Scene", name := "of", desc := "(I)[I" } : Jvm.MethodName)) ∈ gw := gw_t 1965 (by decide +kernel) rfl
theorem zw_1940 : (Jvm.Cond.instanceMethod ({ cls := "OrreryBoxModel$Scene", name := "of", desc := "(I)[I" } : Jvm.MethodName)) ∈ gw := gw_t 1940 (by decide +kernel) rfl
theorem zw_1941 : (Jvm.Cond.selects "OrreryBoxModel$Scene" ({ cls := "OrreryBoxModel$Scene", name := "of", desc := "(I)[I" } : Jvm.MethodName) ({ cls := "OrreryBoxModel$Scene", name := "of", desc := "(I)[I" } : Jvm.MethodName)) ∈ gw := gw_t 1941 (by decide +kernel) rfl
theorem zs_MD_139 : zwV "OrreryBoxModel" 139 "OrreryBoxModel$Scene" zy_MScene_of zb_MScene_of 2 (some (.array .int)) := ⟨zw_1965, zw_1940, zw_1941, zw_14, zc_MScene_of⟩
def F_MD_set (sh : zSh) (mm : zMem) (o : Nat) (x0_ : Int32) (x1_ : Int32) (x2_ : Int32) (x3_ : Int32) (x4_ : Int32) : Option (Int32 × zMem) := zoS (sh o) 1 (fun le2 => zoL (mI mm o 11 0) (fun mm3 => (if x0_ < 0 then some (0, mm3) else zoS (sh o) 1 (fun le6 => Option.bind (mm3.2.2 o 4) (fun a7 => zoS (sh a7) 15 (fun le9 => (if (mm3.1 a7 3) ≤ x0_ then some (0, mm3) else (if x1_ < 0 then some (0, mm3) else (if 2 < x1_ then some (0, mm3) else (if x1_ = 0 then (if (sp_MD_within x2_ x3_ x4_ 4194304) = 0 then some (0, mm3) else zoS (sh o) 1 (fun le40 => Option.bind (mm3.2.2 o 4) (fun a41 => zoS (sh a41) 15 (fun le43 => Option.bind (F_MScene_of sh mm3 a41 x1_) (fun p44 => zoL (3 * x0_) (fun i45 => zoS (sh (p44.1)) 100 (fun le47 => if (i45 : Int32) < 0 ∨ le47 ≤ (i45 : Int32).toNatClampNeg then none else zoL (mI (p44.2) (p44.1) (i45 : Int32).toNatClampNeg x2_) (fun mm49 => zoL ((3 * x0_) + 1) (fun i50 => zoS (sh (p44.1)) 100 (fun le52 => if (i50 : Int32) < 0 ∨ le52 ≤ (i50 : Int32).toNatClampNeg then none else zoL (mI mm49 (p44.1) (i50 : Int32).toNatClampNeg x3_) (fun mm54 => zoL ((3 * x0_) + 2) (fun i55 => zoS (sh (p44.1)) 100 (fun le57 => if (i55 : Int32) < 0 ∨ le57 ≤ (i55 : Int32).toNatClampNeg then none else zoL (mI mm54 (p44.1) (i55 : Int32).toNatClampNeg x4_) (fun mm59 => some (1, mm59))))))))))))))) else (if (sp_MD_within x2_ x3_ x4_ 1048576) = 0 then some (0, mm3) else zoS (sh o) 1 (fun le17 => Option.bind (mm3.2.2 o 4) (fun a18 => zoS (sh a18) 15 (fun le20 => Option.bind (F_MScene_of sh mm3 a18 x1_) (fun p21 => zoL (3 * x0_) (fun i22 => zoS (sh (p21.1)) 100 (fun le24 => if (i22 : Int32) < 0 ∨ le24 ≤ (i22 : Int32).toNatClampNeg then none else zoL (mI (p21.2) (p21.1) (i22 : Int32).toNatClampNeg x2_) (fun mm26 => zoL ((3 * x0_) + 1) (fun i27 => zoS (sh (p21.1)) 100 (fun le29 => if (i27 : Int32) < 0 ∨ le29 ≤ (i27 : Int32).toNatClampNeg then none else zoL (mI mm26 (p21.1) (i27 : Int32).toNatClampNeg x3_) (fun mm31 => zoL ((3 * x0_) + 2) (fun i32 => zoS (sh (p21.1)) 100 (fun le34 => if (i32 : Int32) < 0 ∨ le34 ≤ (i32 : Int32).toNatClampNeg then none else zoL (mI mm31 (p21.1) (i32 : Int32).toNatClampNeg x4_) (fun mm36 => some (1, mm36)))))))))))))))))))))))))
set_option maxHeartbeats 4000000 in
set_option maxRecDepth 100000 in
theorem k_MD_set (l : Launch) (D : va_G) (tA : Nat → ClassId) (b : Nat) (sh : zSh) (n : Nat) {mm : zMem} {o : Nat} {x0_ : Int32} {x1_ : Int32} {x2_ : Int32} {x3_ : Int32} {x4_ : Int32} {r : (Int32 × zMem)} (h : F_MD_set sh mm o x0_ x1_ x2_ x3_ x4_ = some r) : zM l D tA b zy_MD_set zb_MD_set 7 (some .boolean) 1 23 0 0 [.ref (b + o), .int x0_, .int x1_, .int x2_, .int x3_, .int x4_] (zW tA b sh mm) n (zE (some (.int (r.1))) (zW tA b sh r.2) n) := by
  unfold F_MD_set at h
  refine zM_of (own := "OrreryBoxModel") (plainFor_of_name (by decide)) rfl (Nat.le_of_ble_eq_true rfl) (fun p e s m below meth c F hr hin hH => ?_)
  refine zr_aload_n F zd_MD_set_0 rfl ?_
  refine zr_iconstv (v := 0) F zd_MD_set_1 (by decide) ?_
  obtain ⟨le2, hs1, h⟩ := zoS_s h
  refine zr_put F 1 11 zd_MD_set_2 (zW_o hs1 (by decide)) rfl (by decide) zw_1691 rfl rfl rfl rfl (by exact (Nat.le_of_ble_eq_true rfl)) ?_
  obtain ⟨mm3, emm3, h⟩ := zoL_s h
  refine zr_norm (zW tA b sh mm3) _ (by rw [emm3]; exact zW_pI (v := 0) hs1 (by decide) (zf_I_1_11 b _ _ _)) rfl ?_
  refine zr_iload_n F zd_MD_set_5 rfl ?_
  refine zr_if_lt F 51 zd_MD_set_6 (by decide) (fun hb4 => ?_) (fun hb4 => ?_)
  ·
    rw [if_pos hb4] at h
    refine zr_iconstv (v := 0) F zd_MD_set_51 (by decide) ?_
    obtain rfl := Option.some.inj h
    exact zr_zret F hr rfl zd_MD_set_52 (Nat.le_of_ble_eq_true rfl) (Nat.le_of_ble_eq_true rfl) ⟨rfl, rfl, rfl⟩
  ·
    rw [if_neg hb4] at h
    refine zr_pcn 9 rfl ?_
    refine zr_iload_n F zd_MD_set_9 rfl ?_
    refine zr_aload_n F zd_MD_set_10 rfl ?_
    obtain ⟨le6, hs5, h⟩ := zoS_s h
    obtain ⟨a7, ea7, h⟩ := zoB_s h
    refine zr_get F 1 4 zd_MD_set_11 (zW_o hs5 (by decide)) rfl (by decide) zw_1684 rfl (by rfl) ?_
    refine zr_tor ea7 ?_
    obtain ⟨le9, hs8, h⟩ := zoS_s h
    refine zr_get F 15 3 zd_MD_set_14 (zW_o hs8 (by decide)) rfl (by decide) zw_1325 rfl (by rfl) ?_
    refine zr_icmp_ge F 51 zd_MD_set_17 (by decide) (fun hb10 => ?_) (fun hb10 => ?_)
    ·
      rw [if_pos hb10] at h
      refine zr_iconstv (v := 0) F zd_MD_set_51 (by decide) ?_
      obtain rfl := Option.some.inj h
      exact zr_zret F hr rfl zd_MD_set_52 (Nat.le_of_ble_eq_true rfl) (Nat.le_of_ble_eq_true rfl) ⟨rfl, rfl, rfl⟩
    ·
      rw [if_neg hb10] at h
      refine zr_iload_n F zd_MD_set_20 rfl ?_
      refine zr_pcn 21 rfl ?_
      refine zr_if_lt F 51 zd_MD_set_21 (by decide) (fun hb11 => ?_) (fun hb11 => ?_)
      ·
        rw [if_pos hb11] at h
        refine zr_iconstv (v := 0) F zd_MD_set_51 (by decide) ?_
        obtain rfl := Option.some.inj h
        exact zr_zret F hr rfl zd_MD_set_52 (Nat.le_of_ble_eq_true rfl) (Nat.le_of_ble_eq_true rfl) ⟨rfl, rfl, rfl⟩
      ·
        rw [if_neg hb11] at h
        refine zr_iload_n F zd_MD_set_24 rfl ?_
        refine zr_iconstv (v := 2) F zd_MD_set_25 (by decide) ?_
        refine zr_icmp_gt F 51 zd_MD_set_26 (by decide) (fun hb12 => ?_) (fun hb12 => ?_)
        ·
          rw [if_pos hb12] at h
          refine zr_iconstv (v := 0) F zd_MD_set_51 (by decide) ?_
          obtain rfl := Option.some.inj h
          exact zr_zret F hr rfl zd_MD_set_52 (Nat.le_of_ble_eq_true rfl) (Nat.le_of_ble_eq_true rfl) ⟨rfl, rfl, rfl⟩
        ·
          rw [if_neg hb12] at h
          refine zr_pcn 29 rfl ?_
          refine zr_iload_n F zd_MD_set_29 rfl ?_
          refine zr_iload F zd_MD_set_30 rfl ?_
          refine zr_iload F zd_MD_set_32 rfl ?_
          refine zr_iload_n F zd_MD_set_34 rfl ?_
          refine zr_if_ne F 43 zd_MD_set_35 (by decide) (fun hb13 => ?_) (fun hb13 => ?_)
          ·
            rw [if_neg hb13] at h
            refine zr_ldc F zd_MD_set_43 zw_1961 ?_
            refine zr_callS1 F (c_MD_within l D tA b _ _ x2_ x3_ x4_ 1048576) zd_MD_set_45 zs_MD_135 zq_MD_within rfl rfl ⟨(Nat.le_of_ble_eq_true rfl), (Nat.le_of_ble_eq_true rfl)⟩ (Nat.le_of_ble_eq_true rfl) ⟨(Nat.le_of_ble_eq_true rfl), (Nat.le_of_ble_eq_true rfl)⟩ ?_
            refine zr_if_ne F 53 zd_MD_set_48 (by decide) (fun hb15 => ?_) (fun hb15 => ?_)
            ·
              rw [if_neg hb15] at h
              refine zr_pcn 53 rfl ?_
              refine zr_aload_n F zd_MD_set_53 rfl ?_
              obtain ⟨le17, hs16, h⟩ := zoS_s h
              obtain ⟨a18, ea18, h⟩ := zoB_s h
              refine zr_get F 1 4 zd_MD_set_54 (zW_o hs16 (by decide)) rfl (by decide) zw_1684 rfl (by rfl) ?_
              refine zr_tor ea18 ?_
              refine zr_iload_n F zd_MD_set_57 rfl ?_
              obtain ⟨le20, hs19, h⟩ := zoS_s h
              obtain ⟨p21, ep21, h⟩ := zoB_s h
              refine zr_callV1 F (k_MScene_of l D tA b sh _ ep21) zd_MD_set_58 (zW_o hs19 (by decide)) rfl zs_MD_139 rfl zq_MScene_of rfl rfl ⟨(Nat.le_of_ble_eq_true rfl), (Nat.le_of_ble_eq_true rfl)⟩ (Nat.le_of_ble_eq_true rfl) ⟨(Nat.le_of_ble_eq_true rfl), (Nat.le_of_ble_eq_true rfl)⟩ ?_
              refine zr_astore F zd_MD_set_61 (by decide) ?_
              refine zr_aload F zd_MD_set_63 rfl ?_
              refine zr_iconstv (v := 3) F zd_MD_set_65 (by decide) ?_
              refine zr_iload_n F zd_MD_set_66 rfl ?_
              refine zr_pcn 67 rfl ?_
              refine zr_imul F zd_MD_set_67 ?_
              refine zr_iload_n F zd_MD_set_68 rfl ?_
              obtain ⟨i22, ei22, h⟩ := zoL_s h
              rw [← ei22]
              obtain ⟨le24, hs23, h⟩ := zoS_s h
              obtain ⟨hi25, h⟩ := zoI_s h
              refine zr_iast F zd_MD_set_69 (zW_a0 hs23) hi25 ?_
              obtain ⟨mm26, emm26, h⟩ := zoL_s h
              refine zr_norm (zW tA b sh mm26) _ (by rw [emm26]; exact zW_s0 hs23) rfl ?_
              refine zr_aload F zd_MD_set_70 rfl ?_
              refine zr_iconstv (v := 3) F zd_MD_set_72 (by decide) ?_
              refine zr_iload_n F zd_MD_set_73 rfl ?_
              refine zr_imul F zd_MD_set_74 ?_
              refine zr_iconstv (v := 1) F zd_MD_set_75 (by decide) ?_
              refine zr_pcn 76 rfl ?_
              refine zr_iadd F zd_MD_set_76 ?_
              refine zr_iload F zd_MD_set_77 rfl ?_
              obtain ⟨i27, ei27, h⟩ := zoL_s h
              rw [← ei27]
              obtain ⟨le29, hs28, h⟩ := zoS_s h
              obtain ⟨hi30, h⟩ := zoI_s h
              refine zr_iast F zd_MD_set_79 (zW_a0 hs28) hi30 ?_
              obtain ⟨mm31, emm31, h⟩ := zoL_s h
              refine zr_norm (zW tA b sh mm31) _ (by rw [emm31]; exact zW_s0 hs28) rfl ?_
              refine zr_aload F zd_MD_set_80 rfl ?_
              refine zr_iconstv (v := 3) F zd_MD_set_82 (by decide) ?_
              refine zr_iload_n F zd_MD_set_83 rfl ?_
              refine zr_imul F zd_MD_set_84 ?_
              refine zr_iconstv (v := 2) F zd_MD_set_85 (by decide) ?_
              refine zr_pcn 86 rfl ?_
              refine zr_iadd F zd_MD_set_86 ?_
              refine zr_iload F zd_MD_set_87 rfl ?_
              obtain ⟨i32, ei32, h⟩ := zoL_s h
              rw [← ei32]
              obtain ⟨le34, hs33, h⟩ := zoS_s h
              obtain ⟨hi35, h⟩ := zoI_s h
              refine zr_iast F zd_MD_set_89 (zW_a0 hs33) hi35 ?_
              obtain ⟨mm36, emm36, h⟩ := zoL_s h
              refine zr_norm (zW tA b sh mm36) _ (by rw [emm36]; exact zW_s0 hs33) rfl ?_
              refine zr_iconstv (v := 1) F zd_MD_set_90 (by decide) ?_
              obtain rfl := Option.some.inj h
              exact zr_zret F hr rfl zd_MD_set_91 (Nat.le_of_ble_eq_true rfl) (Nat.le_of_ble_eq_true rfl) ⟨rfl, rfl, rfl⟩
            ·
              rw [if_pos hb15] at h
              refine zr_iconstv (v := 0) F zd_MD_set_51 (by decide) ?_
              obtain rfl := Option.some.inj h
              exact zr_zret F hr rfl zd_MD_set_52 (Nat.le_of_ble_eq_true rfl) (Nat.le_of_ble_eq_true rfl) ⟨rfl, rfl, rfl⟩
          ·
            rw [if_pos hb13] at h
            refine zr_ldc F zd_MD_set_38 zw_1960 ?_
            refine zr_pcn 40 rfl ?_
            refine zr_goto F 45 zd_MD_set_40 (by decide) ?_
            refine zr_callS1 F (c_MD_within l D tA b _ _ x2_ x3_ x4_ 4194304) zd_MD_set_45 zs_MD_135 zq_MD_within rfl rfl ⟨(Nat.le_of_ble_eq_true rfl), (Nat.le_of_ble_eq_true rfl)⟩ (Nat.le_of_ble_eq_true rfl) ⟨(Nat.le_of_ble_eq_true rfl), (Nat.le_of_ble_eq_true rfl)⟩ ?_
            refine zr_if_ne F 53 zd_MD_set_48 (by decide) (fun hb38 => ?_) (fun hb38 => ?_)
            ·
              rw [if_neg hb38] at h
              refine zr_aload_n F zd_MD_set_53 rfl ?_
              obtain ⟨le40, hs39, h⟩ := zoS_s h
              obtain ⟨a41, ea41, h⟩ := zoB_s h
              refine zr_get F 1 4 zd_MD_set_54 (zW_o hs39 (by decide)) rfl (by decide) zw_1684 rfl (by rfl) ?_
              refine zr_tor ea41 ?_
              refine zr_iload_n F zd_MD_set_57 rfl ?_
              obtain ⟨le43, hs42, h⟩ := zoS_s h
              obtain ⟨p44, ep44, h⟩ := zoB_s h
              refine zr_callV1 F (k_MScene_of l D tA b sh _ ep44) zd_MD_set_58 (zW_o hs42 (by decide)) rfl zs_MD_139 rfl zq_MScene_of rfl rfl ⟨(Nat.le_of_ble_eq_true rfl), (Nat.le_of_ble_eq_true rfl)⟩ (Nat.le_of_ble_eq_true rfl) ⟨(Nat.le_of_ble_eq_true rfl), (Nat.le_of_ble_eq_true rfl)⟩ ?_
              refine zr_astore F zd_MD_set_61 (by decide) ?_
              refine zr_pcn 63 rfl ?_
              refine zr_aload F zd_MD_set_63 rfl ?_
              refine zr_iconstv (v := 3) F zd_MD_set_65 (by decide) ?_
              refine zr_iload_n F zd_MD_set_66 rfl ?_
              refine zr_imul F zd_MD_set_67 ?_
              refine zr_iload_n F zd_MD_set_68 rfl ?_
              obtain ⟨i45, ei45, h⟩ := zoL_s h
              rw [← ei45]
              obtain ⟨le47, hs46, h⟩ := zoS_s h
              obtain ⟨hi48, h⟩ := zoI_s h
              refine zr_iast F zd_MD_set_69 (zW_a0 hs46) hi48 ?_
              obtain ⟨mm49, emm49, h⟩ := zoL_s h
              refine zr_norm (zW tA b sh mm49) _ (by rw [emm49]; exact zW_s0 hs46) rfl ?_
              refine zr_aload F zd_MD_set_70 rfl ?_
              refine zr_iconstv (v := 3) F zd_MD_set_72 (by decide) ?_
              refine zr_pcn 73 rfl ?_
              refine zr_iload_n F zd_MD_set_73 rfl ?_
              refine zr_imul F zd_MD_set_74 ?_
              refine zr_iconstv (v := 1) F zd_MD_set_75 (by decide) ?_
              refine zr_iadd F zd_MD_set_76 ?_
              refine zr_iload F zd_MD_set_77 rfl ?_
              obtain ⟨i50, ei50, h⟩ := zoL_s h
              rw [← ei50]
              obtain ⟨le52, hs51, h⟩ := zoS_s h
              obtain ⟨hi53, h⟩ := zoI_s h
              refine zr_iast F zd_MD_set_79 (zW_a0 hs51) hi53 ?_
              obtain ⟨mm54, emm54, h⟩ := zoL_s h
              refine zr_norm (zW tA b sh mm54) _ (by rw [emm54]; exact zW_s0 hs51) rfl ?_
              refine zr_aload F zd_MD_set_80 rfl ?_
              refine zr_iconstv (v := 3) F zd_MD_set_82 (by decide) ?_
              refine zr_pcn 83 rfl ?_
              refine zr_iload_n F zd_MD_set_83 rfl ?_
              refine zr_imul F zd_MD_set_84 ?_
              refine zr_iconstv (v := 2) F zd_MD_set_85 (by decide) ?_
              refine zr_iadd F zd_MD_set_86 ?_
              refine zr_iload F zd_MD_set_87 rfl ?_
              obtain ⟨i55, ei55, h⟩ := zoL_s h
              rw [← ei55]
              obtain ⟨le57, hs56, h⟩ := zoS_s h
              obtain ⟨hi58, h⟩ := zoI_s h
              refine zr_iast F zd_MD_set_89 (zW_a0 hs56) hi58 ?_
              obtain ⟨mm59, emm59, h⟩ := zoL_s h
              refine zr_norm (zW tA b sh mm59) _ (by rw [emm59]; exact zW_s0 hs56) rfl ?_
              refine zr_iconstv (v := 1) F zd_MD_set_90 (by decide) ?_
              obtain rfl := Option.some.inj h
              exact zr_zret F hr rfl zd_MD_set_91 (Nat.le_of_ble_eq_true rfl) (Nat.le_of_ble_eq_true rfl) ⟨rfl, rfl, rfl⟩
            ·
              rw [if_pos hb38] at h
              refine zr_pcn 51 rfl ?_
              refine zr_iconstv (v := 0) F zd_MD_set_51 (by decide) ?_
              obtain rfl := Option.some.inj h
              exact zr_zret F hr rfl zd_MD_set_52 (Nat.le_of_ble_eq_true rfl) (Nat.le_of_ble_eq_true rfl) ⟨rfl, rfl, rfl⟩
theorem zw_1582 : (Jvm.Cond.fieldLink "OrreryBoxModel" (168 : Nat) "OrreryBoxModel$Painter" "scene" "LOrreryBoxModel$Scene;") ∈ gw := gw_t 1582 (by decide +kernel) rfl
theorem zf_R_13_5 (b : Nat) (m : zMem) (k : Nat) (v : Option Nat) : (zfl b 13 m k).set 5 (zrf b v) = zfl b 13 (mR m k 5 v) k := by simp [zfl, mR, upd, vp_updL]
theorem zw_1993 : (Jvm.Cond.methodLink "OrreryBoxModel" (171 : Nat) ({ cls := "OrreryBoxModel$Painter", name := "toWorld", desc := "(I)V" } : Jvm.MethodName)) ∈ gw := gw_t 1993 (by decide +kernel) rfl
theorem zs_MD_171 : zwV "OrreryBoxModel" 171 "OrreryBoxModel$Painter" zy_MPainter_toWorld zb_MPainter_toWorld 4 none := ⟨zw_1993, zw_1994, zw_1995, zw_17, zc_MPainter_toWorld⟩
theorem zw_1594 : (Jvm.Cond.fieldLink "OrreryBoxModel" (174 : Nat) "OrreryBoxModel$Painter" "world" "[J") ∈ gw := gw_t 1594 (by decide +kernel) rfl
def F_MD_world (sh : zSh) (mm : zMem) (o : Nat) (x0_ : Int32) (x1_ : Int32) (x2_ : Int32) : Option (Int32 × zMem) := (if x0_ < 0 then zoS (sh o) 1 (fun le3 => zoL (mI mm o 11 1) (fun mm4 => zoS (sh o) 1 (fun le6 => (if (mm4.1 o 11) = 0 then zoS (sh o) 1 (fun le9 => Option.bind (mm4.2.2 o 8) (fun a10 => zoS (sh o) 1 (fun le12 => Option.bind (mm4.2.2 o 4) (fun a13 => zoS (sh a10) 13 (fun le15 => zoL (mR mm4 a10 5 (some a13)) (fun mm16 => zoS (sh o) 1 (fun le18 => Option.bind (mm16.2.2 o 8) (fun a19 => zoS (sh a19) 13 (fun le21 => Option.bind (F_MPainter_toWorld sh mm16 a19 x0_) (fun p22 => zoS (sh o) 1 (fun le24 => Option.bind (p22.2.2 o 8) (fun a25 => zoS (sh a25) 13 (fun le27 => Option.bind (p22.2.2 a25 14) (fun a28 => zoL ((4 * x1_) + x2_) (fun i29 => zoS (sh a28) 102 (fun le31 => if (i29 : Int32) < 0 ∨ le31 ≤ (i29 : Int32).toNatClampNeg then none else some ((((p22.2.1 a28 (i29 : Int32).toNatClampNeg) : Int64).toInt32), p22))))))))))))))))) else some (0, mm4))))) else zoS (sh o) 1 (fun le34 => Option.bind (mm.2.2 o 4) (fun a35 => zoS (sh a35) 15 (fun le37 => (if (mm.1 a35 3) ≤ x0_ then zoS (sh o) 1 (fun le40 => zoL (mI mm o 11 1) (fun mm41 => zoS (sh o) 1 (fun le43 => (if (mm41.1 o 11) = 0 then zoS (sh o) 1 (fun le46 => Option.bind (mm41.2.2 o 8) (fun a47 => zoS (sh o) 1 (fun le49 => Option.bind (mm41.2.2 o 4) (fun a50 => zoS (sh a47) 13 (fun le52 => zoL (mR mm41 a47 5 (some a50)) (fun mm53 => zoS (sh o) 1 (fun le55 => Option.bind (mm53.2.2 o 8) (fun a56 => zoS (sh a56) 13 (fun le58 => Option.bind (F_MPainter_toWorld sh mm53 a56 x0_) (fun p59 => zoS (sh o) 1 (fun le61 => Option.bind (p59.2.2 o 8) (fun a62 => zoS (sh a62) 13 (fun le64 => Option.bind (p59.2.2 a62 14) (fun a65 => zoL ((4 * x1_) + x2_) (fun i66 => zoS (sh a65) 102 (fun le68 => if (i66 : Int32) < 0 ∨ le68 ≤ (i66 : Int32).toNatClampNeg then none else some ((((p59.2.1 a65 (i66 : Int32).toNatClampNeg) : Int64).toInt32), p59))))))))))))))))) else some (0, mm41))))) else (if x1_ < 0 then zoS (sh o) 1 (fun le72 => zoL (mI mm o 11 1) (fun mm73 => zoS (sh o) 1 (fun le75 => (if (mm73.1 o 11) = 0 then zoS (sh o) 1 (fun le78 => Option.bind (mm73.2.2 o 8) (fun a79 => zoS (sh o) 1 (fun le81 => Option.bind (mm73.2.2 o 4) (fun a82 => zoS (sh a79) 13 (fun le84 => zoL (mR mm73 a79 5 (some a82)) (fun mm85 => zoS (sh o) 1 (fun le87 => Option.bind (mm85.2.2 o 8) (fun a88 => zoS (sh a88) 13 (fun le90 => Option.bind (F_MPainter_toWorld sh mm85 a88 x0_) (fun p91 => zoS (sh o) 1 (fun le93 => Option.bind (p91.2.2 o 8) (fun a94 => zoS (sh a94) 13 (fun le96 => Option.bind (p91.2.2 a94 14) (fun a97 => zoL ((4 * x1_) + x2_) (fun i98 => zoS (sh a97) 102 (fun le100 => if (i98 : Int32) < 0 ∨ le100 ≤ (i98 : Int32).toNatClampNeg then none else some ((((p91.2.1 a97 (i98 : Int32).toNatClampNeg) : Int64).toInt32), p91))))))))))))))))) else some (0, mm73))))) else (if 2 < x1_ then zoS (sh o) 1 (fun le104 => zoL (mI mm o 11 1) (fun mm105 => zoS (sh o) 1 (fun le107 => (if (mm105.1 o 11) = 0 then zoS (sh o) 1 (fun le110 => Option.bind (mm105.2.2 o 8) (fun a111 => zoS (sh o) 1 (fun le113 => Option.bind (mm105.2.2 o 4) (fun a114 => zoS (sh a111) 13 (fun le116 => zoL (mR mm105 a111 5 (some a114)) (fun mm117 => zoS (sh o) 1 (fun le119 => Option.bind (mm117.2.2 o 8) (fun a120 => zoS (sh a120) 13 (fun le122 => Option.bind (F_MPainter_toWorld sh mm117 a120 x0_) (fun p123 => zoS (sh o) 1 (fun le125 => Option.bind (p123.2.2 o 8) (fun a126 => zoS (sh a126) 13 (fun le128 => Option.bind (p123.2.2 a126 14) (fun a129 => zoL ((4 * x1_) + x2_) (fun i130 => zoS (sh a129) 102 (fun le132 => if (i130 : Int32) < 0 ∨ le132 ≤ (i130 : Int32).toNatClampNeg then none else some ((((p123.2.1 a129 (i130 : Int32).toNatClampNeg) : Int64).toInt32), p123))))))))))))))))) else some (0, mm105))))) else (if x2_ < 0 then zoS (sh o) 1 (fun le136 => zoL (mI mm o 11 1) (fun mm137 => zoS (sh o) 1 (fun le139 => (if (mm137.1 o 11) = 0 then zoS (sh o) 1 (fun le142 => Option.bind (mm137.2.2 o 8) (fun a143 => zoS (sh o) 1 (fun le145 => Option.bind (mm137.2.2 o 4) (fun a146 => zoS (sh a143) 13 (fun le148 => zoL (mR mm137 a143 5 (some a146)) (fun mm149 => zoS (sh o) 1 (fun le151 => Option.bind (mm149.2.2 o 8) (fun a152 => zoS (sh a152) 13 (fun le154 => Option.bind (F_MPainter_toWorld sh mm149 a152 x0_) (fun p155 => zoS (sh o) 1 (fun le157 => Option.bind (p155.2.2 o 8) (fun a158 => zoS (sh a158) 13 (fun le160 => Option.bind (p155.2.2 a158 14) (fun a161 => zoL ((4 * x1_) + x2_) (fun i162 => zoS (sh a161) 102 (fun le164 => if (i162 : Int32) < 0 ∨ le164 ≤ (i162 : Int32).toNatClampNeg then none else some ((((p155.2.1 a161 (i162 : Int32).toNatClampNeg) : Int64).toInt32), p155))))))))))))))))) else some (0, mm137))))) else (if x2_ ≤ 3 then zoS (sh o) 1 (fun le168 => zoL (mI mm o 11 0) (fun mm169 => zoS (sh o) 1 (fun le171 => (if (mm169.1 o 11) = 0 then zoS (sh o) 1 (fun le174 => Option.bind (mm169.2.2 o 8) (fun a175 => zoS (sh o) 1 (fun le177 => Option.bind (mm169.2.2 o 4) (fun a178 => zoS (sh a175) 13 (fun le180 => zoL (mR mm169 a175 5 (some a178)) (fun mm181 => zoS (sh o) 1 (fun le183 => Option.bind (mm181.2.2 o 8) (fun a184 => zoS (sh a184) 13 (fun le186 => Option.bind (F_MPainter_toWorld sh mm181 a184 x0_) (fun p187 => zoS (sh o) 1 (fun le189 => Option.bind (p187.2.2 o 8) (fun a190 => zoS (sh a190) 13 (fun le192 => Option.bind (p187.2.2 a190 14) (fun a193 => zoL ((4 * x1_) + x2_) (fun i194 => zoS (sh a193) 102 (fun le196 => if (i194 : Int32) < 0 ∨ le196 ≤ (i194 : Int32).toNatClampNeg then none else some ((((p187.2.1 a193 (i194 : Int32).toNatClampNeg) : Int64).toInt32), p187))))))))))))))))) else some (0, mm169))))) else zoS (sh o) 1 (fun le199 => zoL (mI mm o 11 1) (fun mm200 => zoS (sh o) 1 (fun le202 => (if (mm200.1 o 11) = 0 then zoS (sh o) 1 (fun le205 => Option.bind (mm200.2.2 o 8) (fun a206 => zoS (sh o) 1 (fun le208 => Option.bind (mm200.2.2 o 4) (fun a209 => zoS (sh a206) 13 (fun le211 => zoL (mR mm200 a206 5 (some a209)) (fun mm212 => zoS (sh o) 1 (fun le214 => Option.bind (mm212.2.2 o 8) (fun a215 => zoS (sh a215) 13 (fun le217 => Option.bind (F_MPainter_toWorld sh mm212 a215 x0_) (fun p218 => zoS (sh o) 1 (fun le220 => Option.bind (p218.2.2 o 8) (fun a221 => zoS (sh a221) 13 (fun le223 => Option.bind (p218.2.2 a221 14) (fun a224 => zoL ((4 * x1_) + x2_) (fun i225 => zoS (sh a224) 102 (fun le227 => if (i225 : Int32) < 0 ∨ le227 ≤ (i225 : Int32).toNatClampNeg then none else some ((((p218.2.1 a224 (i225 : Int32).toNatClampNeg) : Int64).toInt32), p218))))))))))))))))) else some (0, mm200))))))))))))))
set_option maxHeartbeats 4000000 in
set_option maxRecDepth 100000 in
theorem k_MD_world (l : Launch) (D : va_G) (tA : Nat → ClassId) (b : Nat) (sh : zSh) (n : Nat) {mm : zMem} {o : Nat} {x0_ : Int32} {x1_ : Int32} {x2_ : Int32} {r : (Int32 × zMem)} (h : F_MD_world sh mm o x0_ x1_ x2_ = some r) : zM l D tA b zy_MD_world zb_MD_world 4 (some .int) 9 212 0 0 [.ref (b + o), .int x0_, .int x1_, .int x2_] (zW tA b sh mm) n (zE (some (.int (r.1))) (zW tA b sh r.2) n) := by
  unfold F_MD_world at h
  refine zM_of (own := "OrreryBoxModel") (plainFor_of_name (by decide)) rfl (Nat.le_of_ble_eq_true rfl) (fun p e s m below meth c F hr hin hH => ?_)
  refine zr_aload_n F zd_MD_world_0 rfl ?_
  refine zr_iload_n F zd_MD_world_1 rfl ?_
  refine zr_if_lt F 34 zd_MD_world_2 (by decide) (fun hb1 => ?_) (fun hb1 => ?_)
  ·
    rw [if_pos hb1] at h
    refine zr_iconstv (v := 1) F zd_MD_world_34 (by decide) ?_
    refine zr_goto F 39 zd_MD_world_35 (by decide) ?_
    obtain ⟨le3, hs2, h⟩ := zoS_s h
    refine zr_put F 1 11 zd_MD_world_39 (zW_o hs2 (by decide)) rfl (by decide) zw_1691 rfl rfl rfl rfl (by exact (Nat.le_of_ble_eq_true rfl)) ?_
    obtain ⟨mm4, emm4, h⟩ := zoL_s h
    refine zr_norm (zW tA b sh mm4) _ (by rw [emm4]; exact zW_pI (v := 1) hs2 (by decide) (zf_I_1_11 b _ _ _)) rfl ?_
    refine zr_aload_n F zd_MD_world_42 rfl ?_
    refine zr_pcn 43 rfl ?_
    obtain ⟨le6, hs5, h⟩ := zoS_s h
    refine zr_get F 1 11 zd_MD_world_43 (zW_o hs5 (by decide)) rfl (by decide) zw_1691 rfl (by rfl) ?_
    refine zr_if_eq F 51 zd_MD_world_46 (by decide) (fun hb7 => ?_) (fun hb7 => ?_)
    ·
      rw [if_pos hb7] at h
      refine zr_aload_n F zd_MD_world_51 rfl ?_
      obtain ⟨le9, hs8, h⟩ := zoS_s h
      obtain ⟨a10, ea10, h⟩ := zoB_s h
      refine zr_get F 1 8 zd_MD_world_52 (zW_o hs8 (by decide)) rfl (by decide) zw_1688 rfl (by rfl) ?_
      refine zr_tor ea10 ?_
      refine zr_aload_n F zd_MD_world_55 rfl ?_
      obtain ⟨le12, hs11, h⟩ := zoS_s h
      obtain ⟨a13, ea13, h⟩ := zoB_s h
      refine zr_get F 1 4 zd_MD_world_56 (zW_o hs11 (by decide)) rfl (by decide) zw_1684 rfl (by rfl) ?_
      refine zr_tor ea13 ?_
      obtain ⟨le15, hs14, h⟩ := zoS_s h
      refine zr_put F 13 5 zd_MD_world_59 (zW_o hs14 (by decide)) rfl (by decide) zw_1582 rfl rfl rfl rfl (by exact (Nat.le_of_ble_eq_true rfl)) ?_
      obtain ⟨mm16, emm16, h⟩ := zoL_s h
      refine zr_norm (zW tA b sh mm16) _ (by rw [emm16]; exact zW_pR (v := (some a13)) hs14 (by decide) (zf_R_13_5 b _ _ _)) rfl ?_
      refine zr_aload_n F zd_MD_world_62 rfl ?_
      refine zr_pcn 63 rfl ?_
      obtain ⟨le18, hs17, h⟩ := zoS_s h
      obtain ⟨a19, ea19, h⟩ := zoB_s h
      refine zr_get F 1 8 zd_MD_world_63 (zW_o hs17 (by decide)) rfl (by decide) zw_1688 rfl (by rfl) ?_
      refine zr_tor ea19 ?_
      refine zr_iload_n F zd_MD_world_66 rfl ?_
      obtain ⟨le21, hs20, h⟩ := zoS_s h
      obtain ⟨p22, ep22, h⟩ := zoB_s h
      refine zr_callV0 F (k_MPainter_toWorld l D tA b sh _ ep22) zd_MD_world_67 (zW_o hs20 (by decide)) rfl zs_MD_171 rfl zq_MPainter_toWorld rfl rfl ⟨(Nat.le_of_ble_eq_true rfl), (Nat.le_of_ble_eq_true rfl)⟩ (Nat.le_of_ble_eq_true rfl) ⟨(Nat.le_of_ble_eq_true rfl), (Nat.le_of_ble_eq_true rfl)⟩ ?_
      refine zr_aload_n F zd_MD_world_70 rfl ?_
      obtain ⟨le24, hs23, h⟩ := zoS_s h
      obtain ⟨a25, ea25, h⟩ := zoB_s h
      refine zr_get F 1 8 zd_MD_world_71 (zW_o hs23 (by decide)) rfl (by decide) zw_1688 rfl (by rfl) ?_
      refine zr_tor ea25 ?_
      obtain ⟨le27, hs26, h⟩ := zoS_s h
      obtain ⟨a28, ea28, h⟩ := zoB_s h
      refine zr_get F 13 14 zd_MD_world_74 (zW_o hs26 (by decide)) rfl (by decide) zw_1594 rfl (by rfl) ?_
      refine zr_tor ea28 ?_
      refine zr_iconstv (v := 4) F zd_MD_world_77 (by decide) ?_
      refine zr_iload_n F zd_MD_world_78 rfl ?_
      refine zr_pcn 79 rfl ?_
      refine zr_imul F zd_MD_world_79 ?_
      refine zr_iload_n F zd_MD_world_80 rfl ?_
      refine zr_iadd F zd_MD_world_81 ?_
      obtain ⟨i29, ei29, h⟩ := zoL_s h
      rw [← ei29]
      obtain ⟨le31, hs30, h⟩ := zoS_s h
      obtain ⟨hi32, h⟩ := zoI_s h
      refine zr_lald F zd_MD_world_82 (zW_a2 hs30) hi32 ?_
      refine zr_l2i F zd_MD_world_83 ?_
      obtain rfl := Option.some.inj h
      exact zr_iret F hr zd_MD_world_84 (Nat.le_of_ble_eq_true rfl) (Nat.le_of_ble_eq_true rfl) ⟨rfl, rfl, rfl⟩
    ·
      rw [if_neg hb7] at h
      refine zr_iconstv (v := 0) F zd_MD_world_49 (by decide) ?_
      obtain rfl := Option.some.inj h
      exact zr_iret F hr zd_MD_world_50 (Nat.le_of_ble_eq_true rfl) (Nat.le_of_ble_eq_true rfl) ⟨rfl, rfl, rfl⟩
  ·
    rw [if_neg hb1] at h
    refine zr_pcn 5 rfl ?_
    refine zr_iload_n F zd_MD_world_5 rfl ?_
    refine zr_aload_n F zd_MD_world_6 rfl ?_
    obtain ⟨le34, hs33, h⟩ := zoS_s h
    obtain ⟨a35, ea35, h⟩ := zoB_s h
    refine zr_get F 1 4 zd_MD_world_7 (zW_o hs33 (by decide)) rfl (by decide) zw_1684 rfl (by rfl) ?_
    refine zr_tor ea35 ?_
    obtain ⟨le37, hs36, h⟩ := zoS_s h
    refine zr_get F 15 3 zd_MD_world_10 (zW_o hs36 (by decide)) rfl (by decide) zw_1325 rfl (by rfl) ?_
    refine zr_icmp_ge F 34 zd_MD_world_13 (by decide) (fun hb38 => ?_) (fun hb38 => ?_)
    ·
      rw [if_pos hb38] at h
      refine zr_iconstv (v := 1) F zd_MD_world_34 (by decide) ?_
      refine zr_goto F 39 zd_MD_world_35 (by decide) ?_
      obtain ⟨le40, hs39, h⟩ := zoS_s h
      refine zr_put F 1 11 zd_MD_world_39 (zW_o hs39 (by decide)) rfl (by decide) zw_1691 rfl rfl rfl rfl (by exact (Nat.le_of_ble_eq_true rfl)) ?_
      obtain ⟨mm41, emm41, h⟩ := zoL_s h
      refine zr_norm (zW tA b sh mm41) _ (by rw [emm41]; exact zW_pI (v := 1) hs39 (by decide) (zf_I_1_11 b _ _ _)) rfl ?_
      refine zr_pcn 42 rfl ?_
      refine zr_aload_n F zd_MD_world_42 rfl ?_
      obtain ⟨le43, hs42, h⟩ := zoS_s h
      refine zr_get F 1 11 zd_MD_world_43 (zW_o hs42 (by decide)) rfl (by decide) zw_1691 rfl (by rfl) ?_
      refine zr_if_eq F 51 zd_MD_world_46 (by decide) (fun hb44 => ?_) (fun hb44 => ?_)
      ·
        rw [if_pos hb44] at h
        refine zr_aload_n F zd_MD_world_51 rfl ?_
        obtain ⟨le46, hs45, h⟩ := zoS_s h
        obtain ⟨a47, ea47, h⟩ := zoB_s h
        refine zr_get F 1 8 zd_MD_world_52 (zW_o hs45 (by decide)) rfl (by decide) zw_1688 rfl (by rfl) ?_
        refine zr_tor ea47 ?_
        refine zr_aload_n F zd_MD_world_55 rfl ?_
        obtain ⟨le49, hs48, h⟩ := zoS_s h
        obtain ⟨a50, ea50, h⟩ := zoB_s h
        refine zr_get F 1 4 zd_MD_world_56 (zW_o hs48 (by decide)) rfl (by decide) zw_1684 rfl (by rfl) ?_
        refine zr_tor ea50 ?_
        obtain ⟨le52, hs51, h⟩ := zoS_s h
        refine zr_put F 13 5 zd_MD_world_59 (zW_o hs51 (by decide)) rfl (by decide) zw_1582 rfl rfl rfl rfl (by exact (Nat.le_of_ble_eq_true rfl)) ?_
        obtain ⟨mm53, emm53, h⟩ := zoL_s h
        refine zr_norm (zW tA b sh mm53) _ (by rw [emm53]; exact zW_pR (v := (some a50)) hs51 (by decide) (zf_R_13_5 b _ _ _)) rfl ?_
        refine zr_pcn 62 rfl ?_
        refine zr_aload_n F zd_MD_world_62 rfl ?_
        obtain ⟨le55, hs54, h⟩ := zoS_s h
        obtain ⟨a56, ea56, h⟩ := zoB_s h
        refine zr_get F 1 8 zd_MD_world_63 (zW_o hs54 (by decide)) rfl (by decide) zw_1688 rfl (by rfl) ?_
        refine zr_tor ea56 ?_
        refine zr_iload_n F zd_MD_world_66 rfl ?_
        obtain ⟨le58, hs57, h⟩ := zoS_s h
        obtain ⟨p59, ep59, h⟩ := zoB_s h
        refine zr_callV0 F (k_MPainter_toWorld l D tA b sh _ ep59) zd_MD_world_67 (zW_o hs57 (by decide)) rfl zs_MD_171 rfl zq_MPainter_toWorld rfl rfl ⟨(Nat.le_of_ble_eq_true rfl), (Nat.le_of_ble_eq_true rfl)⟩ (Nat.le_of_ble_eq_true rfl) ⟨(Nat.le_of_ble_eq_true rfl), (Nat.le_of_ble_eq_true rfl)⟩ ?_
        refine zr_aload_n F zd_MD_world_70 rfl ?_
        obtain ⟨le61, hs60, h⟩ := zoS_s h
        obtain ⟨a62, ea62, h⟩ := zoB_s h
        refine zr_get F 1 8 zd_MD_world_71 (zW_o hs60 (by decide)) rfl (by decide) zw_1688 rfl (by rfl) ?_
        refine zr_tor ea62 ?_
        obtain ⟨le64, hs63, h⟩ := zoS_s h
        obtain ⟨a65, ea65, h⟩ := zoB_s h
        refine zr_get F 13 14 zd_MD_world_74 (zW_o hs63 (by decide)) rfl (by decide) zw_1594 rfl (by rfl) ?_
        refine zr_tor ea65 ?_
        refine zr_iconstv (v := 4) F zd_MD_world_77 (by decide) ?_
        refine zr_pcn 78 rfl ?_
        refine zr_iload_n F zd_MD_world_78 rfl ?_
        refine zr_imul F zd_MD_world_79 ?_
        refine zr_iload_n F zd_MD_world_80 rfl ?_
        refine zr_iadd F zd_MD_world_81 ?_
        obtain ⟨i66, ei66, h⟩ := zoL_s h
        rw [← ei66]
        obtain ⟨le68, hs67, h⟩ := zoS_s h
        obtain ⟨hi69, h⟩ := zoI_s h
        refine zr_lald F zd_MD_world_82 (zW_a2 hs67) hi69 ?_
        refine zr_l2i F zd_MD_world_83 ?_
        obtain rfl := Option.some.inj h
        exact zr_iret F hr zd_MD_world_84 (Nat.le_of_ble_eq_true rfl) (Nat.le_of_ble_eq_true rfl) ⟨rfl, rfl, rfl⟩
      ·
        rw [if_neg hb44] at h
        refine zr_iconstv (v := 0) F zd_MD_world_49 (by decide) ?_
        refine zr_pcn 50 rfl ?_
        obtain rfl := Option.some.inj h
        exact zr_iret F hr zd_MD_world_50 (Nat.le_of_ble_eq_true rfl) (Nat.le_of_ble_eq_true rfl) ⟨rfl, rfl, rfl⟩
    ·
      rw [if_neg hb38] at h
      refine zr_iload_n F zd_MD_world_16 rfl ?_
      refine zr_if_lt F 34 zd_MD_world_17 (by decide) (fun hb70 => ?_) (fun hb70 => ?_)
      ·
        rw [if_pos hb70] at h
        refine zr_iconstv (v := 1) F zd_MD_world_34 (by decide) ?_
        refine zr_goto F 39 zd_MD_world_35 (by decide) ?_
        obtain ⟨le72, hs71, h⟩ := zoS_s h
        refine zr_put F 1 11 zd_MD_world_39 (zW_o hs71 (by decide)) rfl (by decide) zw_1691 rfl rfl rfl rfl (by exact (Nat.le_of_ble_eq_true rfl)) ?_
        obtain ⟨mm73, emm73, h⟩ := zoL_s h
        refine zr_norm (zW tA b sh mm73) _ (by rw [emm73]; exact zW_pI (v := 1) hs71 (by decide) (zf_I_1_11 b _ _ _)) rfl ?_
        refine zr_aload_n F zd_MD_world_42 rfl ?_
        obtain ⟨le75, hs74, h⟩ := zoS_s h
        refine zr_get F 1 11 zd_MD_world_43 (zW_o hs74 (by decide)) rfl (by decide) zw_1691 rfl (by rfl) ?_
        refine zr_pcn 46 rfl ?_
        refine zr_if_eq F 51 zd_MD_world_46 (by decide) (fun hb76 => ?_) (fun hb76 => ?_)
        ·
          rw [if_pos hb76] at h
          refine zr_aload_n F zd_MD_world_51 rfl ?_
          obtain ⟨le78, hs77, h⟩ := zoS_s h
          obtain ⟨a79, ea79, h⟩ := zoB_s h
          refine zr_get F 1 8 zd_MD_world_52 (zW_o hs77 (by decide)) rfl (by decide) zw_1688 rfl (by rfl) ?_
          refine zr_tor ea79 ?_
          refine zr_aload_n F zd_MD_world_55 rfl ?_
          obtain ⟨le81, hs80, h⟩ := zoS_s h
          obtain ⟨a82, ea82, h⟩ := zoB_s h
          refine zr_get F 1 4 zd_MD_world_56 (zW_o hs80 (by decide)) rfl (by decide) zw_1684 rfl (by rfl) ?_
          refine zr_tor ea82 ?_
          obtain ⟨le84, hs83, h⟩ := zoS_s h
          refine zr_put F 13 5 zd_MD_world_59 (zW_o hs83 (by decide)) rfl (by decide) zw_1582 rfl rfl rfl rfl (by exact (Nat.le_of_ble_eq_true rfl)) ?_
          obtain ⟨mm85, emm85, h⟩ := zoL_s h
          refine zr_norm (zW tA b sh mm85) _ (by rw [emm85]; exact zW_pR (v := (some a82)) hs83 (by decide) (zf_R_13_5 b _ _ _)) rfl ?_
          refine zr_aload_n F zd_MD_world_62 rfl ?_
          obtain ⟨le87, hs86, h⟩ := zoS_s h
          obtain ⟨a88, ea88, h⟩ := zoB_s h
          refine zr_get F 1 8 zd_MD_world_63 (zW_o hs86 (by decide)) rfl (by decide) zw_1688 rfl (by rfl) ?_
          refine zr_tor ea88 ?_
          refine zr_pcn 66 rfl ?_
          refine zr_iload_n F zd_MD_world_66 rfl ?_
          obtain ⟨le90, hs89, h⟩ := zoS_s h
          obtain ⟨p91, ep91, h⟩ := zoB_s h
          refine zr_callV0 F (k_MPainter_toWorld l D tA b sh _ ep91) zd_MD_world_67 (zW_o hs89 (by decide)) rfl zs_MD_171 rfl zq_MPainter_toWorld rfl rfl ⟨(Nat.le_of_ble_eq_true rfl), (Nat.le_of_ble_eq_true rfl)⟩ (Nat.le_of_ble_eq_true rfl) ⟨(Nat.le_of_ble_eq_true rfl), (Nat.le_of_ble_eq_true rfl)⟩ ?_
          refine zr_aload_n F zd_MD_world_70 rfl ?_
          obtain ⟨le93, hs92, h⟩ := zoS_s h
          obtain ⟨a94, ea94, h⟩ := zoB_s h
          refine zr_get F 1 8 zd_MD_world_71 (zW_o hs92 (by decide)) rfl (by decide) zw_1688 rfl (by rfl) ?_
          refine zr_tor ea94 ?_
          obtain ⟨le96, hs95, h⟩ := zoS_s h
          obtain ⟨a97, ea97, h⟩ := zoB_s h
          refine zr_get F 13 14 zd_MD_world_74 (zW_o hs95 (by decide)) rfl (by decide) zw_1594 rfl (by rfl) ?_
          refine zr_tor ea97 ?_
          refine zr_iconstv (v := 4) F zd_MD_world_77 (by decide) ?_
          refine zr_iload_n F zd_MD_world_78 rfl ?_
          refine zr_imul F zd_MD_world_79 ?_
          refine zr_pcn 80 rfl ?_
          refine zr_iload_n F zd_MD_world_80 rfl ?_
          refine zr_iadd F zd_MD_world_81 ?_
          obtain ⟨i98, ei98, h⟩ := zoL_s h
          rw [← ei98]
          obtain ⟨le100, hs99, h⟩ := zoS_s h
          obtain ⟨hi101, h⟩ := zoI_s h
          refine zr_lald F zd_MD_world_82 (zW_a2 hs99) hi101 ?_
          refine zr_l2i F zd_MD_world_83 ?_
          obtain rfl := Option.some.inj h
          exact zr_iret F hr zd_MD_world_84 (Nat.le_of_ble_eq_true rfl) (Nat.le_of_ble_eq_true rfl) ⟨rfl, rfl, rfl⟩
        ·
          rw [if_neg hb76] at h
          refine zr_iconstv (v := 0) F zd_MD_world_49 (by decide) ?_
          obtain rfl := Option.some.inj h
          exact zr_iret F hr zd_MD_world_50 (Nat.le_of_ble_eq_true rfl) (Nat.le_of_ble_eq_true rfl) ⟨rfl, rfl, rfl⟩
      ·
        rw [if_neg hb70] at h
        refine zr_iload_n F zd_MD_world_20 rfl ?_
        refine zr_pcn 21 rfl ?_
        refine zr_iconstv (v := 2) F zd_MD_world_21 (by decide) ?_
        refine zr_icmp_gt F 34 zd_MD_world_22 (by decide) (fun hb102 => ?_) (fun hb102 => ?_)
        ·
          rw [if_pos hb102] at h
          refine zr_iconstv (v := 1) F zd_MD_world_34 (by decide) ?_
          refine zr_goto F 39 zd_MD_world_35 (by decide) ?_
          obtain ⟨le104, hs103, h⟩ := zoS_s h
          refine zr_put F 1 11 zd_MD_world_39 (zW_o hs103 (by decide)) rfl (by decide) zw_1691 rfl rfl rfl rfl (by exact (Nat.le_of_ble_eq_true rfl)) ?_
          obtain ⟨mm105, emm105, h⟩ := zoL_s h
          refine zr_norm (zW tA b sh mm105) _ (by rw [emm105]; exact zW_pI (v := 1) hs103 (by decide) (zf_I_1_11 b _ _ _)) rfl ?_
          refine zr_aload_n F zd_MD_world_42 rfl ?_
          obtain ⟨le107, hs106, h⟩ := zoS_s h
          refine zr_get F 1 11 zd_MD_world_43 (zW_o hs106 (by decide)) rfl (by decide) zw_1691 rfl (by rfl) ?_
          refine zr_if_eq F 51 zd_MD_world_46 (by decide) (fun hb108 => ?_) (fun hb108 => ?_)
          ·
            rw [if_pos hb108] at h
            refine zr_pcn 51 rfl ?_
            refine zr_aload_n F zd_MD_world_51 rfl ?_
            obtain ⟨le110, hs109, h⟩ := zoS_s h
            obtain ⟨a111, ea111, h⟩ := zoB_s h
            refine zr_get F 1 8 zd_MD_world_52 (zW_o hs109 (by decide)) rfl (by decide) zw_1688 rfl (by rfl) ?_
            refine zr_tor ea111 ?_
            refine zr_aload_n F zd_MD_world_55 rfl ?_
            obtain ⟨le113, hs112, h⟩ := zoS_s h
            obtain ⟨a114, ea114, h⟩ := zoB_s h
            refine zr_get F 1 4 zd_MD_world_56 (zW_o hs112 (by decide)) rfl (by decide) zw_1684 rfl (by rfl) ?_
            refine zr_tor ea114 ?_
            obtain ⟨le116, hs115, h⟩ := zoS_s h
            refine zr_put F 13 5 zd_MD_world_59 (zW_o hs115 (by decide)) rfl (by decide) zw_1582 rfl rfl rfl rfl (by exact (Nat.le_of_ble_eq_true rfl)) ?_
            obtain ⟨mm117, emm117, h⟩ := zoL_s h
            refine zr_norm (zW tA b sh mm117) _ (by rw [emm117]; exact zW_pR (v := (some a114)) hs115 (by decide) (zf_R_13_5 b _ _ _)) rfl ?_
            refine zr_aload_n F zd_MD_world_62 rfl ?_
            obtain ⟨le119, hs118, h⟩ := zoS_s h
            obtain ⟨a120, ea120, h⟩ := zoB_s h
            refine zr_get F 1 8 zd_MD_world_63 (zW_o hs118 (by decide)) rfl (by decide) zw_1688 rfl (by rfl) ?_
            refine zr_tor ea120 ?_
            refine zr_iload_n F zd_MD_world_66 rfl ?_
            refine zr_pcn 67 rfl ?_
            obtain ⟨le122, hs121, h⟩ := zoS_s h
            obtain ⟨p123, ep123, h⟩ := zoB_s h
            refine zr_callV0 F (k_MPainter_toWorld l D tA b sh _ ep123) zd_MD_world_67 (zW_o hs121 (by decide)) rfl zs_MD_171 rfl zq_MPainter_toWorld rfl rfl ⟨(Nat.le_of_ble_eq_true rfl), (Nat.le_of_ble_eq_true rfl)⟩ (Nat.le_of_ble_eq_true rfl) ⟨(Nat.le_of_ble_eq_true rfl), (Nat.le_of_ble_eq_true rfl)⟩ ?_
            refine zr_aload_n F zd_MD_world_70 rfl ?_
            obtain ⟨le125, hs124, h⟩ := zoS_s h
            obtain ⟨a126, ea126, h⟩ := zoB_s h
            refine zr_get F 1 8 zd_MD_world_71 (zW_o hs124 (by decide)) rfl (by decide) zw_1688 rfl (by rfl) ?_
            refine zr_tor ea126 ?_
            obtain ⟨le128, hs127, h⟩ := zoS_s h
            obtain ⟨a129, ea129, h⟩ := zoB_s h
            refine zr_get F 13 14 zd_MD_world_74 (zW_o hs127 (by decide)) rfl (by decide) zw_1594 rfl (by rfl) ?_
            refine zr_tor ea129 ?_
            refine zr_iconstv (v := 4) F zd_MD_world_77 (by decide) ?_
            refine zr_iload_n F zd_MD_world_78 rfl ?_
            refine zr_imul F zd_MD_world_79 ?_
            refine zr_iload_n F zd_MD_world_80 rfl ?_
            refine zr_pcn 81 rfl ?_
            refine zr_iadd F zd_MD_world_81 ?_
            obtain ⟨i130, ei130, h⟩ := zoL_s h
            rw [← ei130]
            obtain ⟨le132, hs131, h⟩ := zoS_s h
            obtain ⟨hi133, h⟩ := zoI_s h
            refine zr_lald F zd_MD_world_82 (zW_a2 hs131) hi133 ?_
            refine zr_l2i F zd_MD_world_83 ?_
            obtain rfl := Option.some.inj h
            exact zr_iret F hr zd_MD_world_84 (Nat.le_of_ble_eq_true rfl) (Nat.le_of_ble_eq_true rfl) ⟨rfl, rfl, rfl⟩
          ·
            rw [if_neg hb108] at h
            refine zr_iconstv (v := 0) F zd_MD_world_49 (by decide) ?_
            obtain rfl := Option.some.inj h
            exact zr_iret F hr zd_MD_world_50 (Nat.le_of_ble_eq_true rfl) (Nat.le_of_ble_eq_true rfl) ⟨rfl, rfl, rfl⟩
        ·
          rw [if_neg hb102] at h
          refine zr_iload_n F zd_MD_world_25 rfl ?_
          refine zr_if_lt F 34 zd_MD_world_26 (by decide) (fun hb134 => ?_) (fun hb134 => ?_)
          ·
            rw [if_pos hb134] at h
            refine zr_pcn 34 rfl ?_
            refine zr_iconstv (v := 1) F zd_MD_world_34 (by decide) ?_
            refine zr_goto F 39 zd_MD_world_35 (by decide) ?_
            obtain ⟨le136, hs135, h⟩ := zoS_s h
            refine zr_put F 1 11 zd_MD_world_39 (zW_o hs135 (by decide)) rfl (by decide) zw_1691 rfl rfl rfl rfl (by exact (Nat.le_of_ble_eq_true rfl)) ?_
            obtain ⟨mm137, emm137, h⟩ := zoL_s h
            refine zr_norm (zW tA b sh mm137) _ (by rw [emm137]; exact zW_pI (v := 1) hs135 (by decide) (zf_I_1_11 b _ _ _)) rfl ?_
            refine zr_aload_n F zd_MD_world_42 rfl ?_
            obtain ⟨le139, hs138, h⟩ := zoS_s h
            refine zr_get F 1 11 zd_MD_world_43 (zW_o hs138 (by decide)) rfl (by decide) zw_1691 rfl (by rfl) ?_
            refine zr_if_eq F 51 zd_MD_world_46 (by decide) (fun hb140 => ?_) (fun hb140 => ?_)
            ·
              rw [if_pos hb140] at h
              refine zr_aload_n F zd_MD_world_51 rfl ?_
              obtain ⟨le142, hs141, h⟩ := zoS_s h
              obtain ⟨a143, ea143, h⟩ := zoB_s h
              refine zr_get F 1 8 zd_MD_world_52 (zW_o hs141 (by decide)) rfl (by decide) zw_1688 rfl (by rfl) ?_
              refine zr_tor ea143 ?_
              refine zr_pcn 55 rfl ?_
              refine zr_aload_n F zd_MD_world_55 rfl ?_
              obtain ⟨le145, hs144, h⟩ := zoS_s h
              obtain ⟨a146, ea146, h⟩ := zoB_s h
              refine zr_get F 1 4 zd_MD_world_56 (zW_o hs144 (by decide)) rfl (by decide) zw_1684 rfl (by rfl) ?_
              refine zr_tor ea146 ?_
              obtain ⟨le148, hs147, h⟩ := zoS_s h
              refine zr_put F 13 5 zd_MD_world_59 (zW_o hs147 (by decide)) rfl (by decide) zw_1582 rfl rfl rfl rfl (by exact (Nat.le_of_ble_eq_true rfl)) ?_
              obtain ⟨mm149, emm149, h⟩ := zoL_s h
              refine zr_norm (zW tA b sh mm149) _ (by rw [emm149]; exact zW_pR (v := (some a146)) hs147 (by decide) (zf_R_13_5 b _ _ _)) rfl ?_
              refine zr_aload_n F zd_MD_world_62 rfl ?_
              obtain ⟨le151, hs150, h⟩ := zoS_s h
              obtain ⟨a152, ea152, h⟩ := zoB_s h
              refine zr_get F 1 8 zd_MD_world_63 (zW_o hs150 (by decide)) rfl (by decide) zw_1688 rfl (by rfl) ?_
              refine zr_tor ea152 ?_
              refine zr_iload_n F zd_MD_world_66 rfl ?_
              obtain ⟨le154, hs153, h⟩ := zoS_s h
              obtain ⟨p155, ep155, h⟩ := zoB_s h
              refine zr_callV0 F (k_MPainter_toWorld l D tA b sh _ ep155) zd_MD_world_67 (zW_o hs153 (by decide)) rfl zs_MD_171 rfl zq_MPainter_toWorld rfl rfl ⟨(Nat.le_of_ble_eq_true rfl), (Nat.le_of_ble_eq_true rfl)⟩ (Nat.le_of_ble_eq_true rfl) ⟨(Nat.le_of_ble_eq_true rfl), (Nat.le_of_ble_eq_true rfl)⟩ ?_
              refine zr_aload_n F zd_MD_world_70 rfl ?_
              refine zr_pcn 71 rfl ?_
              obtain ⟨le157, hs156, h⟩ := zoS_s h
              obtain ⟨a158, ea158, h⟩ := zoB_s h
              refine zr_get F 1 8 zd_MD_world_71 (zW_o hs156 (by decide)) rfl (by decide) zw_1688 rfl (by rfl) ?_
              refine zr_tor ea158 ?_
              obtain ⟨le160, hs159, h⟩ := zoS_s h
              obtain ⟨a161, ea161, h⟩ := zoB_s h
              refine zr_get F 13 14 zd_MD_world_74 (zW_o hs159 (by decide)) rfl (by decide) zw_1594 rfl (by rfl) ?_
              refine zr_tor ea161 ?_
              refine zr_iconstv (v := 4) F zd_MD_world_77 (by decide) ?_
              refine zr_iload_n F zd_MD_world_78 rfl ?_
              refine zr_imul F zd_MD_world_79 ?_
              refine zr_iload_n F zd_MD_world_80 rfl ?_
              refine zr_iadd F zd_MD_world_81 ?_
              obtain ⟨i162, ei162, h⟩ := zoL_s h
              rw [← ei162]
              obtain ⟨le164, hs163, h⟩ := zoS_s h
              obtain ⟨hi165, h⟩ := zoI_s h
              refine zr_lald F zd_MD_world_82 (zW_a2 hs163) hi165 ?_
              refine zr_pcn 83 rfl ?_
              refine zr_l2i F zd_MD_world_83 ?_
              obtain rfl := Option.some.inj h
              exact zr_iret F hr zd_MD_world_84 (Nat.le_of_ble_eq_true rfl) (Nat.le_of_ble_eq_true rfl) ⟨rfl, rfl, rfl⟩
            ·
              rw [if_neg hb140] at h
              refine zr_iconstv (v := 0) F zd_MD_world_49 (by decide) ?_
              obtain rfl := Option.some.inj h
              exact zr_iret F hr zd_MD_world_50 (Nat.le_of_ble_eq_true rfl) (Nat.le_of_ble_eq_true rfl) ⟨rfl, rfl, rfl⟩
          ·
            rw [if_neg hb134] at h
            refine zr_iload_n F zd_MD_world_29 rfl ?_
            refine zr_iconstv (v := 3) F zd_MD_world_30 (by decide) ?_
            refine zr_icmp_le F 38 zd_MD_world_31 (by decide) (fun hb166 => ?_) (fun hb166 => ?_)
            ·
              rw [if_pos hb166] at h
              refine zr_iconstv (v := 0) F zd_MD_world_38 (by decide) ?_
              refine zr_pcn 39 rfl ?_
              obtain ⟨le168, hs167, h⟩ := zoS_s h
              refine zr_put F 1 11 zd_MD_world_39 (zW_o hs167 (by decide)) rfl (by decide) zw_1691 rfl rfl rfl rfl (by exact (Nat.le_of_ble_eq_true rfl)) ?_
              obtain ⟨mm169, emm169, h⟩ := zoL_s h
              refine zr_norm (zW tA b sh mm169) _ (by rw [emm169]; exact zW_pI (v := 0) hs167 (by decide) (zf_I_1_11 b _ _ _)) rfl ?_
              refine zr_aload_n F zd_MD_world_42 rfl ?_
              obtain ⟨le171, hs170, h⟩ := zoS_s h
              refine zr_get F 1 11 zd_MD_world_43 (zW_o hs170 (by decide)) rfl (by decide) zw_1691 rfl (by rfl) ?_
              refine zr_if_eq F 51 zd_MD_world_46 (by decide) (fun hb172 => ?_) (fun hb172 => ?_)
              ·
                rw [if_pos hb172] at h
                refine zr_aload_n F zd_MD_world_51 rfl ?_
                obtain ⟨le174, hs173, h⟩ := zoS_s h
                obtain ⟨a175, ea175, h⟩ := zoB_s h
                refine zr_get F 1 8 zd_MD_world_52 (zW_o hs173 (by decide)) rfl (by decide) zw_1688 rfl (by rfl) ?_
                refine zr_tor ea175 ?_
                refine zr_aload_n F zd_MD_world_55 rfl ?_
                obtain ⟨le177, hs176, h⟩ := zoS_s h
                obtain ⟨a178, ea178, h⟩ := zoB_s h
                refine zr_get F 1 4 zd_MD_world_56 (zW_o hs176 (by decide)) rfl (by decide) zw_1684 rfl (by rfl) ?_
                refine zr_tor ea178 ?_
                refine zr_pcn 59 rfl ?_
                obtain ⟨le180, hs179, h⟩ := zoS_s h
                refine zr_put F 13 5 zd_MD_world_59 (zW_o hs179 (by decide)) rfl (by decide) zw_1582 rfl rfl rfl rfl (by exact (Nat.le_of_ble_eq_true rfl)) ?_
                obtain ⟨mm181, emm181, h⟩ := zoL_s h
                refine zr_norm (zW tA b sh mm181) _ (by rw [emm181]; exact zW_pR (v := (some a178)) hs179 (by decide) (zf_R_13_5 b _ _ _)) rfl ?_
                refine zr_aload_n F zd_MD_world_62 rfl ?_
                obtain ⟨le183, hs182, h⟩ := zoS_s h
                obtain ⟨a184, ea184, h⟩ := zoB_s h
                refine zr_get F 1 8 zd_MD_world_63 (zW_o hs182 (by decide)) rfl (by decide) zw_1688 rfl (by rfl) ?_
                refine zr_tor ea184 ?_
                refine zr_iload_n F zd_MD_world_66 rfl ?_
                obtain ⟨le186, hs185, h⟩ := zoS_s h
                obtain ⟨p187, ep187, h⟩ := zoB_s h
                refine zr_callV0 F (k_MPainter_toWorld l D tA b sh _ ep187) zd_MD_world_67 (zW_o hs185 (by decide)) rfl zs_MD_171 rfl zq_MPainter_toWorld rfl rfl ⟨(Nat.le_of_ble_eq_true rfl), (Nat.le_of_ble_eq_true rfl)⟩ (Nat.le_of_ble_eq_true rfl) ⟨(Nat.le_of_ble_eq_true rfl), (Nat.le_of_ble_eq_true rfl)⟩ ?_
                refine zr_aload_n F zd_MD_world_70 rfl ?_
                obtain ⟨le189, hs188, h⟩ := zoS_s h
                obtain ⟨a190, ea190, h⟩ := zoB_s h
                refine zr_get F 1 8 zd_MD_world_71 (zW_o hs188 (by decide)) rfl (by decide) zw_1688 rfl (by rfl) ?_
                refine zr_tor ea190 ?_
                obtain ⟨le192, hs191, h⟩ := zoS_s h
                obtain ⟨a193, ea193, h⟩ := zoB_s h
                refine zr_get F 13 14 zd_MD_world_74 (zW_o hs191 (by decide)) rfl (by decide) zw_1594 rfl (by rfl) ?_
                refine zr_tor ea193 ?_
                refine zr_pcn 77 rfl ?_
                refine zr_iconstv (v := 4) F zd_MD_world_77 (by decide) ?_
                refine zr_iload_n F zd_MD_world_78 rfl ?_
                refine zr_imul F zd_MD_world_79 ?_
                refine zr_iload_n F zd_MD_world_80 rfl ?_
                refine zr_iadd F zd_MD_world_81 ?_
                obtain ⟨i194, ei194, h⟩ := zoL_s h
                rw [← ei194]
                obtain ⟨le196, hs195, h⟩ := zoS_s h
                obtain ⟨hi197, h⟩ := zoI_s h
                refine zr_lald F zd_MD_world_82 (zW_a2 hs195) hi197 ?_
                refine zr_l2i F zd_MD_world_83 ?_
                obtain rfl := Option.some.inj h
                exact zr_iret F hr zd_MD_world_84 (Nat.le_of_ble_eq_true rfl) (Nat.le_of_ble_eq_true rfl) ⟨rfl, rfl, rfl⟩
              ·
                rw [if_neg hb172] at h
                refine zr_pcn 49 rfl ?_
                refine zr_iconstv (v := 0) F zd_MD_world_49 (by decide) ?_
                obtain rfl := Option.some.inj h
                exact zr_iret F hr zd_MD_world_50 (Nat.le_of_ble_eq_true rfl) (Nat.le_of_ble_eq_true rfl) ⟨rfl, rfl, rfl⟩
            ·
              rw [if_neg hb166] at h
              refine zr_iconstv (v := 1) F zd_MD_world_34 (by decide) ?_
              refine zr_goto F 39 zd_MD_world_35 (by decide) ?_
              obtain ⟨le199, hs198, h⟩ := zoS_s h
              refine zr_put F 1 11 zd_MD_world_39 (zW_o hs198 (by decide)) rfl (by decide) zw_1691 rfl rfl rfl rfl (by exact (Nat.le_of_ble_eq_true rfl)) ?_
              obtain ⟨mm200, emm200, h⟩ := zoL_s h
              refine zr_norm (zW tA b sh mm200) _ (by rw [emm200]; exact zW_pI (v := 1) hs198 (by decide) (zf_I_1_11 b _ _ _)) rfl ?_
              refine zr_aload_n F zd_MD_world_42 rfl ?_
              obtain ⟨le202, hs201, h⟩ := zoS_s h
              refine zr_get F 1 11 zd_MD_world_43 (zW_o hs201 (by decide)) rfl (by decide) zw_1691 rfl (by rfl) ?_
              refine zr_if_eq F 51 zd_MD_world_46 (by decide) (fun hb203 => ?_) (fun hb203 => ?_)
              ·
                rw [if_pos hb203] at h
                refine zr_pcn 51 rfl ?_
                refine zr_aload_n F zd_MD_world_51 rfl ?_
                obtain ⟨le205, hs204, h⟩ := zoS_s h
                obtain ⟨a206, ea206, h⟩ := zoB_s h
                refine zr_get F 1 8 zd_MD_world_52 (zW_o hs204 (by decide)) rfl (by decide) zw_1688 rfl (by rfl) ?_
                refine zr_tor ea206 ?_
                refine zr_aload_n F zd_MD_world_55 rfl ?_
                obtain ⟨le208, hs207, h⟩ := zoS_s h
                obtain ⟨a209, ea209, h⟩ := zoB_s h
                refine zr_get F 1 4 zd_MD_world_56 (zW_o hs207 (by decide)) rfl (by decide) zw_1684 rfl (by rfl) ?_
                refine zr_tor ea209 ?_
                obtain ⟨le211, hs210, h⟩ := zoS_s h
                refine zr_put F 13 5 zd_MD_world_59 (zW_o hs210 (by decide)) rfl (by decide) zw_1582 rfl rfl rfl rfl (by exact (Nat.le_of_ble_eq_true rfl)) ?_
                obtain ⟨mm212, emm212, h⟩ := zoL_s h
                refine zr_norm (zW tA b sh mm212) _ (by rw [emm212]; exact zW_pR (v := (some a209)) hs210 (by decide) (zf_R_13_5 b _ _ _)) rfl ?_
                refine zr_aload_n F zd_MD_world_62 rfl ?_
                obtain ⟨le214, hs213, h⟩ := zoS_s h
                obtain ⟨a215, ea215, h⟩ := zoB_s h
                refine zr_get F 1 8 zd_MD_world_63 (zW_o hs213 (by decide)) rfl (by decide) zw_1688 rfl (by rfl) ?_
                refine zr_tor ea215 ?_
                refine zr_iload_n F zd_MD_world_66 rfl ?_
                refine zr_pcn 67 rfl ?_
                obtain ⟨le217, hs216, h⟩ := zoS_s h
                obtain ⟨p218, ep218, h⟩ := zoB_s h
                refine zr_callV0 F (k_MPainter_toWorld l D tA b sh _ ep218) zd_MD_world_67 (zW_o hs216 (by decide)) rfl zs_MD_171 rfl zq_MPainter_toWorld rfl rfl ⟨(Nat.le_of_ble_eq_true rfl), (Nat.le_of_ble_eq_true rfl)⟩ (Nat.le_of_ble_eq_true rfl) ⟨(Nat.le_of_ble_eq_true rfl), (Nat.le_of_ble_eq_true rfl)⟩ ?_
                refine zr_aload_n F zd_MD_world_70 rfl ?_
                obtain ⟨le220, hs219, h⟩ := zoS_s h
                obtain ⟨a221, ea221, h⟩ := zoB_s h
                refine zr_get F 1 8 zd_MD_world_71 (zW_o hs219 (by decide)) rfl (by decide) zw_1688 rfl (by rfl) ?_
                refine zr_tor ea221 ?_
                obtain ⟨le223, hs222, h⟩ := zoS_s h
                obtain ⟨a224, ea224, h⟩ := zoB_s h
                refine zr_get F 13 14 zd_MD_world_74 (zW_o hs222 (by decide)) rfl (by decide) zw_1594 rfl (by rfl) ?_
                refine zr_tor ea224 ?_
                refine zr_iconstv (v := 4) F zd_MD_world_77 (by decide) ?_
                refine zr_iload_n F zd_MD_world_78 rfl ?_
                refine zr_imul F zd_MD_world_79 ?_
                refine zr_iload_n F zd_MD_world_80 rfl ?_
                refine zr_pcn 81 rfl ?_
                refine zr_iadd F zd_MD_world_81 ?_
                obtain ⟨i225, ei225, h⟩ := zoL_s h
                rw [← ei225]
                obtain ⟨le227, hs226, h⟩ := zoS_s h
                obtain ⟨hi228, h⟩ := zoI_s h
                refine zr_lald F zd_MD_world_82 (zW_a2 hs226) hi228 ?_
                refine zr_l2i F zd_MD_world_83 ?_
                obtain rfl := Option.some.inj h
                exact zr_iret F hr zd_MD_world_84 (Nat.le_of_ble_eq_true rfl) (Nat.le_of_ble_eq_true rfl) ⟨rfl, rfl, rfl⟩
              ·
                rw [if_neg hb203] at h
                refine zr_iconstv (v := 0) F zd_MD_world_49 (by decide) ?_
                obtain rfl := Option.some.inj h
                exact zr_iret F hr zd_MD_world_50 (Nat.le_of_ble_eq_true rfl) (Nat.le_of_ble_eq_true rfl) ⟨rfl, rfl, rfl⟩
theorem zf_I_1_15 (b : Nat) (m : zMem) (k : Nat) (v : Int32) : (zfl b 1 m k).set 15 (.int v) = zfl b 1 (mI m k 15 v) k := by simp [zfl, mI, upd, vp_updL]
def L_MD_begin_23 (sh : zSh) (fuel : Nat) (v0 : Nat) (v1 : Int32) (mm : zMem) : Option (Nat × Int32 × zMem) := match fuel with
  | 0 => none
  | fu + 1 => (if 36 ≤ v1 then some (v0, v1, mm) else zoS (sh v0) 1 (fun le18 => Option.bind (mm.2.2 v0 16) (fun a19 => zoS (sh a19) 103 (fun le21 => if (v1 : Int32) < 0 ∨ le21 ≤ (v1 : Int32).toNatClampNeg then none else zoL (mI mm a19 (v1 : Int32).toNatClampNeg (vp_nar .boolean 0)) (fun mm23 => L_MD_begin_23 sh fu v0 (v1 + 1) mm23)))))
set_option maxHeartbeats 4000000 in
set_option maxRecDepth 100000 in
theorem lp_MD_begin_23 {p : Program} {l : Launch} {e : Env} {s : State} {m : MethodId} {args : Array Value} {below : List Frame} {meth : Method} {c : Code} {D : va_G} {tA : Nat → ClassId} {b n : Nat} {post : Option Value → zV → Nat → Prop} {sh : zSh} (F : zF p s m args meth c zb_MD_begin 3 "OrreryBoxModel" D tA b) : ∀ (fuel : Nat) (v0 : Nat) (v1 : Int32) (mm : zMem) (r : Nat × Int32 × zMem), L_MD_begin_23 sh fuel v0 v1 mm = some r → (Z p l e { frames := 2, cells := 0, slots := 0, locals := 44 } s m args below meth c D b 3 (MQ below (zQ D b post) args s 0 0 (fun q => b ≤ q)) (zW tA b sh r.2.2) n 0 0 42 [(0, .ref (b + (r.1))), (1, .int (r.2.1))] []) → Z p l e { frames := 2, cells := 0, slots := 0, locals := 44 } s m args below meth c D b 3 (MQ below (zQ D b post) args s 0 0 (fun q => b ≤ q)) (zW tA b sh mm) n 0 0 23 [(0, .ref (b + v0)), (1, .int v1)] [] := by
  intro fuel
  induction fuel with
  | zero =>
    intro v0 v1 mm r h
    cases h
  | succ fu ih =>
    intro v0 v1 mm r h hx0
    rw [L_MD_begin_23] at h
    refine zr_iload_n F zd_MD_begin_23 rfl ?_
    refine zr_bipushv (v := 36) F zd_MD_begin_24 (by decide) ?_
    refine zr_pcn 26 rfl ?_
    refine zr_icmp_ge F 42 zd_MD_begin_26 (by decide) (fun hb16 => ?_) (fun hb16 => ?_)
    ·
      rw [if_pos hb16] at h
      obtain rfl := Option.some.inj h
      refine zr_loc (L' := [(0, .ref (b + v0)), (1, .int v1)]) ⟨rfl, rfl, trivial⟩ ?_
      exact hx0 
    ·
      rw [if_neg hb16] at h
      refine zr_aload_n F zd_MD_begin_29 rfl ?_
      obtain ⟨le18, hs17, h⟩ := zoS_s h
      obtain ⟨a19, ea19, h⟩ := zoB_s h
      refine zr_get F 1 16 zd_MD_begin_30 (zW_o hs17 (by decide)) rfl (by decide) zw_1696 rfl (by rfl) ?_
      refine zr_tor ea19 ?_
      refine zr_iload_n F zd_MD_begin_33 rfl ?_
      refine zr_iconstv (v := 0) F zd_MD_begin_34 (by decide) ?_
      obtain ⟨le21, hs20, h⟩ := zoS_s h
      obtain ⟨hi22, h⟩ := zoI_s h
      refine zr_zast F zd_MD_begin_35 (zW_a3 hs20) hi22 ?_
      obtain ⟨mm23, emm23, h⟩ := zoL_s h
      refine zr_norm (zW tA b sh mm23) _ (by rw [emm23]; exact zW_s3 hs20) rfl ?_
      refine zr_iinc (v := (v1 + 1)) F zd_MD_begin_36 rfl rfl (by decide) ?_
      refine zr_goto F 23 zd_MD_begin_39 (by decide) ?_
      refine zr_loc (L' := [(0, .ref (b + v0)), (1, .int (v1 + 1))]) ⟨rfl, rfl, trivial⟩ ?_
      exact ih _ _ _ _ h hx0
def L_MD_begin_66 (sh : zSh) (fuel : Nat) (v0 : Nat) (v1 : Int32) (v2 : Int32) (mm : zMem) : Option (Nat × Int32 × Int32 × zMem) := match fuel with
  | 0 => none
  | fu + 1 => (if 3 ≤ v2 then some (v0, v1, v2, mm) else zoS (sh v0) 1 (fun le39 => Option.bind (mm.2.2 v0 17) (fun a40 => zoS (sh v0) 1 (fun le42 => Option.bind (mm.2.2 v0 14) (fun a43 => zoS (sh a43) 100 (fun le45 => if (v2 : Int32) < 0 ∨ le45 ≤ (v2 : Int32).toNatClampNeg then none else zoL (mm.1 a43 (v2 : Int32).toNatClampNeg) (fun x47 => zoL ((3 * v1) + v2) (fun i48 => zoS (sh a40) 100 (fun le50 => if (i48 : Int32) < 0 ∨ le50 ≤ (i48 : Int32).toNatClampNeg then none else zoL (mI mm a40 (i48 : Int32).toNatClampNeg x47) (fun mm52 => L_MD_begin_66 sh fu v0 v1 (v2 + 1) mm52))))))))))
set_option maxHeartbeats 4000000 in
set_option maxRecDepth 100000 in
theorem lp_MD_begin_66 {p : Program} {l : Launch} {e : Env} {s : State} {m : MethodId} {args : Array Value} {below : List Frame} {meth : Method} {c : Code} {D : va_G} {tA : Nat → ClassId} {b n : Nat} {post : Option Value → zV → Nat → Prop} {sh : zSh} (F : zF p s m args meth c zb_MD_begin 3 "OrreryBoxModel" D tA b) : ∀ (fuel : Nat) (v0 : Nat) (v1 : Int32) (v2 : Int32) (mm : zMem) (r : Nat × Int32 × Int32 × zMem), L_MD_begin_66 sh fuel v0 v1 v2 mm = some r → (Z p l e { frames := 2, cells := 0, slots := 0, locals := 44 } s m args below meth c D b 3 (MQ below (zQ D b post) args s 0 0 (fun q => b ≤ q)) (zW tA b sh r.2.2.2) n 0 0 93 [(0, .ref (b + (r.1))), (1, .int (r.2.1)), (2, .int (r.2.2.1))] []) → Z p l e { frames := 2, cells := 0, slots := 0, locals := 44 } s m args below meth c D b 3 (MQ below (zQ D b post) args s 0 0 (fun q => b ≤ q)) (zW tA b sh mm) n 0 0 66 [(0, .ref (b + v0)), (1, .int v1), (2, .int v2)] [] := by
  intro fuel
  induction fuel with
  | zero =>
    intro v0 v1 v2 mm r h
    cases h
  | succ fu ih =>
    intro v0 v1 v2 mm r h hx0
    rw [L_MD_begin_66] at h
    refine zr_pcn 66 rfl ?_
    refine zr_iload_n F zd_MD_begin_66 rfl ?_
    refine zr_iconstv (v := 3) F zd_MD_begin_67 (by decide) ?_
    refine zr_icmp_ge F 93 zd_MD_begin_68 (by decide) (fun hb37 => ?_) (fun hb37 => ?_)
    ·
      rw [if_pos hb37] at h
      obtain rfl := Option.some.inj h
      refine zr_loc (L' := [(0, .ref (b + v0)), (1, .int v1), (2, .int v2)]) ⟨rfl, rfl, rfl, trivial⟩ ?_
      exact hx0 
    ·
      rw [if_neg hb37] at h
      refine zr_aload_n F zd_MD_begin_71 rfl ?_
      obtain ⟨le39, hs38, h⟩ := zoS_s h
      obtain ⟨a40, ea40, h⟩ := zoB_s h
      refine zr_get F 1 17 zd_MD_begin_72 (zW_o hs38 (by decide)) rfl (by decide) zw_1697 rfl (by rfl) ?_
      refine zr_tor ea40 ?_
      refine zr_iconstv (v := 3) F zd_MD_begin_75 (by decide) ?_
      refine zr_iload_n F zd_MD_begin_76 rfl ?_
      refine zr_imul F zd_MD_begin_77 ?_
      refine zr_pcn 78 rfl ?_
      refine zr_iload_n F zd_MD_begin_78 rfl ?_
      refine zr_iadd F zd_MD_begin_79 ?_
      refine zr_aload_n F zd_MD_begin_80 rfl ?_
      obtain ⟨le42, hs41, h⟩ := zoS_s h
      obtain ⟨a43, ea43, h⟩ := zoB_s h
      refine zr_get F 1 14 zd_MD_begin_81 (zW_o hs41 (by decide)) rfl (by decide) zw_1694 rfl (by rfl) ?_
      refine zr_tor ea43 ?_
      refine zr_iload_n F zd_MD_begin_84 rfl ?_
      obtain ⟨le45, hs44, h⟩ := zoS_s h
      obtain ⟨hi46, h⟩ := zoI_s h
      refine zr_iald F zd_MD_begin_85 (zW_a0 hs44) hi46 ?_
      obtain ⟨x47, ex47, h⟩ := zoL_s h
      rw [← ex47]
      obtain ⟨i48, ei48, h⟩ := zoL_s h
      rw [← ei48]
      obtain ⟨le50, hs49, h⟩ := zoS_s h
      obtain ⟨hi51, h⟩ := zoI_s h
      refine zr_iast F zd_MD_begin_86 (zW_a0 hs49) hi51 ?_
      obtain ⟨mm52, emm52, h⟩ := zoL_s h
      refine zr_norm (zW tA b sh mm52) _ (by rw [emm52]; exact zW_s0 hs49) rfl ?_
      refine zr_iinc (v := (v2 + 1)) F zd_MD_begin_87 rfl rfl (by decide) ?_
      refine zr_pcn 90 rfl ?_
      refine zr_goto F 66 zd_MD_begin_90 (by decide) ?_
      refine zr_loc (L' := [(0, .ref (b + v0)), (1, .int v1), (2, .int (v2 + 1))]) ⟨rfl, rfl, rfl, trivial⟩ ?_
      exact ih _ _ _ _ _ h hx0
def L_MD_begin_44 (sh : zSh) (fuel : Nat) (v0 : Nat) (v1 : Int32) (mm : zMem) : Option (Nat × Int32 × zMem) := match fuel with
  | 0 => none
  | fu + 1 => zoS (sh v0) 1 (fun le26 => zoS (sh v0) 1 (fun le28 => (if ((mm.1 v0 0) * (mm.1 v0 1)) ≤ v1 then some (v0, v1, mm) else zoS (sh v0) 1 (fun le31 => Option.bind (mm.2.2 v0 18) (fun a32 => zoS (sh a32) 102 (fun le34 => if (v1 : Int32) < 0 ∨ le34 ≤ (v1 : Int32).toNatClampNeg then none else zoL (mL mm a32 (v1 : Int32).toNatClampNeg 0) (fun mm36 => Option.bind (L_MD_begin_66 sh zfuel v0 v1 0 mm36) (fun q53 => L_MD_begin_44 sh fu (q53.1) (q53.2.1 + 1) (q53.2.2.2)))))))))
set_option maxHeartbeats 4000000 in
set_option maxRecDepth 100000 in
theorem lp_MD_begin_44 {p : Program} {l : Launch} {e : Env} {s : State} {m : MethodId} {args : Array Value} {below : List Frame} {meth : Method} {c : Code} {D : va_G} {tA : Nat → ClassId} {b n : Nat} {post : Option Value → zV → Nat → Prop} {sh : zSh} (F : zF p s m args meth c zb_MD_begin 3 "OrreryBoxModel" D tA b) : ∀ (fuel : Nat) (v0 : Nat) (v1 : Int32) (mm : zMem) (r : Nat × Int32 × zMem), L_MD_begin_44 sh fuel v0 v1 mm = some r → (Z p l e { frames := 2, cells := 0, slots := 0, locals := 44 } s m args below meth c D b 3 (MQ below (zQ D b post) args s 0 0 (fun q => b ≤ q)) (zW tA b sh r.2.2) n 0 0 99 [(0, .ref (b + (r.1))), (1, .int (r.2.1))] []) → Z p l e { frames := 2, cells := 0, slots := 0, locals := 44 } s m args below meth c D b 3 (MQ below (zQ D b post) args s 0 0 (fun q => b ≤ q)) (zW tA b sh mm) n 0 0 44 [(0, .ref (b + v0)), (1, .int v1)] [] := by
  intro fuel
  induction fuel with
  | zero =>
    intro v0 v1 mm r h
    cases h
  | succ fu ih =>
    intro v0 v1 mm r h hx0
    rw [L_MD_begin_44] at h
    refine zr_iload_n F zd_MD_begin_44 rfl ?_
    refine zr_aload_n F zd_MD_begin_45 rfl ?_
    obtain ⟨le26, hs25, h⟩ := zoS_s h
    refine zr_get F 1 0 zd_MD_begin_46 (zW_o hs25 (by decide)) rfl (by decide) zw_1680 rfl (by rfl) ?_
    refine zr_aload_n F zd_MD_begin_49 rfl ?_
    obtain ⟨le28, hs27, h⟩ := zoS_s h
    refine zr_get F 1 1 zd_MD_begin_50 (zW_o hs27 (by decide)) rfl (by decide) zw_1681 rfl (by rfl) ?_
    refine zr_imul F zd_MD_begin_53 ?_
    refine zr_pcn 54 rfl ?_
    refine zr_icmp_ge F 99 zd_MD_begin_54 (by decide) (fun hb29 => ?_) (fun hb29 => ?_)
    ·
      rw [if_pos hb29] at h
      obtain rfl := Option.some.inj h
      refine zr_loc (L' := [(0, .ref (b + v0)), (1, .int v1)]) ⟨rfl, rfl, trivial⟩ ?_
      exact hx0 
    ·
      rw [if_neg hb29] at h
      refine zr_aload_n F zd_MD_begin_57 rfl ?_
      obtain ⟨le31, hs30, h⟩ := zoS_s h
      obtain ⟨a32, ea32, h⟩ := zoB_s h
      refine zr_get F 1 18 zd_MD_begin_58 (zW_o hs30 (by decide)) rfl (by decide) zw_1698 rfl (by rfl) ?_
      refine zr_tor ea32 ?_
      refine zr_iload_n F zd_MD_begin_61 rfl ?_
      refine zr_lconstv (v := 0) F zd_MD_begin_62 (by decide) ?_
      obtain ⟨le34, hs33, h⟩ := zoS_s h
      obtain ⟨hi35, h⟩ := zoI_s h
      refine zr_last F zd_MD_begin_63 (zW_a2 hs33) hi35 ?_
      obtain ⟨mm36, emm36, h⟩ := zoL_s h
      refine zr_norm (zW tA b sh mm36) _ (by rw [emm36]; exact zW_s2 hs33) rfl ?_
      refine zr_iconstv (v := 0) F zd_MD_begin_64 (by decide) ?_
      refine zr_istore_n F zd_MD_begin_65 (by decide) ?_
      obtain ⟨q53, eq53, h⟩ := zoB_s h
      refine zr_loc (L' := [(0, .ref (b + v0)), (1, .int v1), (2, .int 0)]) ⟨rfl, rfl, rfl, trivial⟩ ?_
      refine lp_MD_begin_66 F _ _ _ _ _ _ eq53 ?_
      ·
        refine zr_iinc (v := (q53.2.1 + 1)) F zd_MD_begin_93 rfl rfl (by decide) ?_
        refine zr_goto F 44 zd_MD_begin_96 (by decide) ?_
        refine zr_loc (L' := [(0, .ref (b + (q53.1))), (1, .int (q53.2.1 + 1))]) ⟨rfl, rfl, trivial⟩ ?_
        exact ih _ _ _ _ h hx0
def F_MD_begin (sh : zSh) (mm : zMem) (o : Nat) : Option (Int32 × zMem) := zoS (sh o) 1 (fun le2 => zoL (mI mm o 11 0) (fun mm3 => zoS (sh o) 1 (fun le5 => zoL (mI mm3 o 15 1) (fun mm6 => zoS (sh o) 1 (fun le8 => Option.bind (mm6.2.2 o 6) (fun a9 => zoS (sh o) 1 (fun le11 => Option.bind (mm6.2.2 o 4) (fun a12 => zoS (sh a9) 15 (fun le14 => Option.bind (F_MScene_become sh mm6 a9 a12) (fun p15 => Option.bind (L_MD_begin_23 sh zfuel o 0 p15) (fun q24 => Option.bind (L_MD_begin_44 sh zfuel (q24.1) 0 (q24.2.2)) (fun q54 => zoS (sh (q54.1)) 1 (fun le56 => Option.bind (F_MD_tiles sh (q54.2.2) (q54.1)) (fun p57 => some (p57.1, p57.2)))))))))))))))
set_option maxHeartbeats 4000000 in
set_option maxRecDepth 100000 in
theorem k_MD_begin (l : Launch) (D : va_G) (tA : Nat → ClassId) (b : Nat) (sh : zSh) (n : Nat) {mm : zMem} {o : Nat} {r : (Int32 × zMem)} (h : F_MD_begin sh mm o = some r) : zM l D tA b zy_MD_begin zb_MD_begin 3 (some .int) 2 44 0 0 [.ref (b + o)] (zW tA b sh mm) n (zE (some (.int (r.1))) (zW tA b sh r.2) n) := by
  unfold F_MD_begin at h
  refine zM_of (own := "OrreryBoxModel") (plainFor_of_name (by decide)) rfl (Nat.le_of_ble_eq_true rfl) (fun p e s m below meth c F hr hin hH => ?_)
  refine zr_aload_n F zd_MD_begin_0 rfl ?_
  refine zr_iconstv (v := 0) F zd_MD_begin_1 (by decide) ?_
  obtain ⟨le2, hs1, h⟩ := zoS_s h
  refine zr_put F 1 11 zd_MD_begin_2 (zW_o hs1 (by decide)) rfl (by decide) zw_1691 rfl rfl rfl rfl (by exact (Nat.le_of_ble_eq_true rfl)) ?_
  obtain ⟨mm3, emm3, h⟩ := zoL_s h
  refine zr_norm (zW tA b sh mm3) _ (by rw [emm3]; exact zW_pI (v := 0) hs1 (by decide) (zf_I_1_11 b _ _ _)) rfl ?_
  refine zr_aload_n F zd_MD_begin_5 rfl ?_
  refine zr_iconstv (v := 1) F zd_MD_begin_6 (by decide) ?_
  obtain ⟨le5, hs4, h⟩ := zoS_s h
  refine zr_put F 1 15 zd_MD_begin_7 (zW_o hs4 (by decide)) rfl (by decide) zw_1695 rfl rfl rfl rfl (by exact (Nat.le_of_ble_eq_true rfl)) ?_
  obtain ⟨mm6, emm6, h⟩ := zoL_s h
  refine zr_norm (zW tA b sh mm6) _ (by rw [emm6]; exact zW_pI (v := 1) hs4 (by decide) (zf_I_1_15 b _ _ _)) rfl ?_
  refine zr_aload_n F zd_MD_begin_10 rfl ?_
  refine zr_pcn 11 rfl ?_
  obtain ⟨le8, hs7, h⟩ := zoS_s h
  obtain ⟨a9, ea9, h⟩ := zoB_s h
  refine zr_get F 1 6 zd_MD_begin_11 (zW_o hs7 (by decide)) rfl (by decide) zw_1686 rfl (by rfl) ?_
  refine zr_tor ea9 ?_
  refine zr_aload_n F zd_MD_begin_14 rfl ?_
  obtain ⟨le11, hs10, h⟩ := zoS_s h
  obtain ⟨a12, ea12, h⟩ := zoB_s h
  refine zr_get F 1 4 zd_MD_begin_15 (zW_o hs10 (by decide)) rfl (by decide) zw_1684 rfl (by rfl) ?_
  refine zr_tor ea12 ?_
  obtain ⟨le14, hs13, h⟩ := zoS_s h
  obtain ⟨p15, ep15, h⟩ := zoB_s h
  refine zr_callV0 F (k_MScene_become l D tA b sh _ ep15) zd_MD_begin_18 (zW_o hs13 (by decide)) rfl zs_MD_106 rfl zq_MScene_become rfl rfl ⟨(Nat.le_of_ble_eq_true rfl), (Nat.le_of_ble_eq_true rfl)⟩ (Nat.le_of_ble_eq_true rfl) ⟨(Nat.le_of_ble_eq_true rfl), (Nat.le_of_ble_eq_true rfl)⟩ ?_
  refine zr_iconstv (v := 0) F zd_MD_begin_21 (by decide) ?_
  refine zr_istore_n F zd_MD_begin_22 (by decide) ?_
  obtain ⟨q24, eq24, h⟩ := zoB_s h
  refine zr_loc (L' := [(0, .ref (b + o)), (1, .int 0)]) ⟨rfl, rfl, trivial⟩ ?_
  refine lp_MD_begin_23 F _ _ _ _ _ eq24 ?_
  ·
    refine zr_pcn 42 rfl ?_
    refine zr_iconstv (v := 0) F zd_MD_begin_42 (by decide) ?_
    refine zr_istore_n F zd_MD_begin_43 (by decide) ?_
    obtain ⟨q54, eq54, h⟩ := zoB_s h
    refine zr_loc (L' := [(0, .ref (b + (q24.1))), (1, .int 0)]) ⟨rfl, rfl, trivial⟩ ?_
    refine lp_MD_begin_44 F _ _ _ _ _ eq54 ?_
    ·
      refine zr_aload_n F zd_MD_begin_99 rfl ?_
      obtain ⟨le56, hs55, h⟩ := zoS_s h
      obtain ⟨p57, ep57, h⟩ := zoB_s h
      refine zr_callV1 F (k_MD_tiles l D tA b sh _ ep57) zd_MD_begin_100 (zW_o hs55 (by decide)) rfl zs_MD_185 rfl zq_MD_tiles rfl rfl ⟨(Nat.le_of_ble_eq_true rfl), (Nat.le_of_ble_eq_true rfl)⟩ (Nat.le_of_ble_eq_true rfl) ⟨(Nat.le_of_ble_eq_true rfl), (Nat.le_of_ble_eq_true rfl)⟩ ?_
      obtain rfl := Option.some.inj h
      exact zr_iret F hr zd_MD_begin_103 (Nat.le_of_ble_eq_true rfl) (Nat.le_of_ble_eq_true rfl) ⟨rfl, rfl, rfl⟩
def F_XFixed_turn (sh : zSh) (mm : zMem) (x0_ : Nat) (x1_ : Int32) (x2_ : Nat) : Option zMem := zoS (sh x0_) 100 (fun le2 => if (x1_ : Int32) < 0 ∨ le2 ≤ (x1_ : Int32).toNatClampNeg then none else zoL (mm.1 x0_ (x1_ : Int32).toNatClampNeg) (fun x4 => zoL (zx_sin x4) (fun x6 => zoS (sh x0_) 100 (fun le8 => if (x1_ : Int32) < 0 ∨ le8 ≤ (x1_ : Int32).toNatClampNeg then none else zoL ((mm.1 x0_ (x1_ : Int32).toNatClampNeg) + 1024) (fun x10 => zoL (zx_sin x10) (fun x12 => zoL (x1_ + 1) (fun i13 => zoS (sh x0_) 100 (fun le15 => if (i13 : Int32) < 0 ∨ le15 ≤ (i13 : Int32).toNatClampNeg then none else zoL (mm.1 x0_ (i13 : Int32).toNatClampNeg) (fun x17 => zoL (zx_sin x17) (fun x19 => zoL (x1_ + 1) (fun i20 => zoS (sh x0_) 100 (fun le22 => if (i20 : Int32) < 0 ∨ le22 ≤ (i20 : Int32).toNatClampNeg then none else zoL ((mm.1 x0_ (i20 : Int32).toNatClampNeg) + 1024) (fun x24 => zoL (zx_sin x24) (fun x26 => zoL (x1_ + 2) (fun i27 => zoS (sh x0_) 100 (fun le29 => if (i27 : Int32) < 0 ∨ le29 ≤ (i27 : Int32).toNatClampNeg then none else zoL (mm.1 x0_ (i27 : Int32).toNatClampNeg) (fun x31 => zoL (zx_sin x31) (fun x33 => zoL (x1_ + 2) (fun i34 => zoS (sh x0_) 100 (fun le36 => if (i34 : Int32) < 0 ∨ le36 ≤ (i34 : Int32).toNatClampNeg then none else zoL ((mm.1 x0_ (i34 : Int32).toNatClampNeg) + 1024) (fun x38 => zoL (zx_sin x38) (fun x40 => zoL (zx_mul ((x19 : Int32).toInt64) ((x6 : Int32).toInt64)) (fun x42 => Option.bind (F_XFixed_roll sh mm x2_ 0 ((x26 : Int32).toInt64) x42 x33 x40) (fun p43 => zoL (((zx_mul ((x19 : Int32).toInt64) ((x12 : Int32).toInt64)) : Int64).toInt32) (fun x45 => zoS (sh x2_) 100 (fun le47 => if (2 : Int32) < 0 ∨ le47 ≤ (2 : Int32).toNatClampNeg then none else zoL (mI p43 x2_ (2 : Int32).toNatClampNeg x45) (fun mm49 => Option.bind (F_XFixed_roll sh mm49 x2_ 4 0 ((x12 : Int32).toInt64) x33 x40) (fun p50 => zoL (-x6) (fun x51 => zoS (sh x2_) 100 (fun le53 => if (6 : Int32) < 0 ∨ le53 ≤ (6 : Int32).toNatClampNeg then none else zoL (mI p50 x2_ (6 : Int32).toNatClampNeg x51) (fun mm55 => zoL (zx_mul ((x26 : Int32).toInt64) ((x6 : Int32).toInt64)) (fun x57 => Option.bind (F_XFixed_roll sh mm55 x2_ 8 (((-x19) : Int32).toInt64) x57 x33 x40) (fun p58 => zoL (((zx_mul ((x26 : Int32).toInt64) ((x12 : Int32).toInt64)) : Int64).toInt32) (fun x60 => zoS (sh x2_) 100 (fun le62 => if (10 : Int32) < 0 ∨ le62 ≤ (10 : Int32).toNatClampNeg then none else zoL (mI p58 x2_ (10 : Int32).toNatClampNeg x60) (fun mm64 => some mm64))))))))))))))))))))))))))))))))))))
set_option maxHeartbeats 4000000 in
set_option maxRecDepth 100000 in
theorem k_XFixed_turn (l : Launch) (D : va_G) (tA : Nat → ClassId) (b : Nat) (sh : zSh) (n : Nat) {mm : zMem} {x0_ : Nat} {x1_ : Int32} {x2_ : Nat} {r : zMem} (h : F_XFixed_turn sh mm x0_ x1_ x2_ = some r) : zM l D tA b zy_XFixed_turn zb_XFixed_turn 9 none 3 74 0 0 [.ref (b + x0_), .int x1_, .ref (b + x2_)] (zW tA b sh mm) n (zE none (zW tA b sh r) n) := by
  unfold F_XFixed_turn at h
  refine zM_of (own := "OrreryBox$Fixed") (plainFor_of_name (by decide)) rfl (Nat.le_of_ble_eq_true rfl) (fun p e s m below meth c F hr hin hH => ?_)
  refine zr_aload_n F zd_XFixed_turn_0 rfl ?_
  refine zr_iload_n F zd_XFixed_turn_1 rfl ?_
  obtain ⟨le2, hs1, h⟩ := zoS_s h
  obtain ⟨hi3, h⟩ := zoI_s h
  refine zr_iald F zd_XFixed_turn_2 (zW_a0 hs1) hi3 ?_
  obtain ⟨x4, ex4, h⟩ := zoL_s h
  rw [← ex4]
  refine zr_callS1 F (c_XFixed_sin l D tA b _ _ x4) zd_XFixed_turn_3 zs_XFixed_47 zq_XFixed_sin rfl rfl ⟨(Nat.le_of_ble_eq_true rfl), (Nat.le_of_ble_eq_true rfl)⟩ (Nat.le_of_ble_eq_true rfl) ⟨(Nat.le_of_ble_eq_true rfl), (Nat.le_of_ble_eq_true rfl)⟩ ?_
  obtain ⟨x6, ex6, h⟩ := zoL_s h
  rw [← ex6]
  refine zr_istore_n F zd_XFixed_turn_6 (by decide) ?_
  refine zr_aload_n F zd_XFixed_turn_7 rfl ?_
  refine zr_iload_n F zd_XFixed_turn_8 rfl ?_
  refine zr_pcn 9 rfl ?_
  obtain ⟨le8, hs7, h⟩ := zoS_s h
  obtain ⟨hi9, h⟩ := zoI_s h
  refine zr_iald F zd_XFixed_turn_9 (zW_a0 hs7) hi9 ?_
  refine zr_sipushv (v := 1024) F zd_XFixed_turn_10 (by decide) ?_
  refine zr_iadd F zd_XFixed_turn_13 ?_
  obtain ⟨x10, ex10, h⟩ := zoL_s h
  rw [← ex10]
  refine zr_callS1 F (c_XFixed_sin l D tA b _ _ x10) zd_XFixed_turn_14 zs_XFixed_47 zq_XFixed_sin rfl rfl ⟨(Nat.le_of_ble_eq_true rfl), (Nat.le_of_ble_eq_true rfl)⟩ (Nat.le_of_ble_eq_true rfl) ⟨(Nat.le_of_ble_eq_true rfl), (Nat.le_of_ble_eq_true rfl)⟩ ?_
  obtain ⟨x12, ex12, h⟩ := zoL_s h
  rw [← ex12]
  refine zr_istore F zd_XFixed_turn_17 (by decide) ?_
  refine zr_aload_n F zd_XFixed_turn_19 rfl ?_
  refine zr_iload_n F zd_XFixed_turn_20 rfl ?_
  refine zr_iconstv (v := 1) F zd_XFixed_turn_21 (by decide) ?_
  refine zr_pcn 22 rfl ?_
  refine zr_iadd F zd_XFixed_turn_22 ?_
  obtain ⟨i13, ei13, h⟩ := zoL_s h
  rw [← ei13]
  obtain ⟨le15, hs14, h⟩ := zoS_s h
  obtain ⟨hi16, h⟩ := zoI_s h
  refine zr_iald F zd_XFixed_turn_23 (zW_a0 hs14) hi16 ?_
  obtain ⟨x17, ex17, h⟩ := zoL_s h
  rw [← ex17]
  refine zr_callS1 F (c_XFixed_sin l D tA b _ _ x17) zd_XFixed_turn_24 zs_XFixed_47 zq_XFixed_sin rfl rfl ⟨(Nat.le_of_ble_eq_true rfl), (Nat.le_of_ble_eq_true rfl)⟩ (Nat.le_of_ble_eq_true rfl) ⟨(Nat.le_of_ble_eq_true rfl), (Nat.le_of_ble_eq_true rfl)⟩ ?_
  obtain ⟨x19, ex19, h⟩ := zoL_s h
  rw [← ex19]
  refine zr_istore F zd_XFixed_turn_27 (by decide) ?_
  refine zr_aload_n F zd_XFixed_turn_29 rfl ?_
  refine zr_iload_n F zd_XFixed_turn_30 rfl ?_
  refine zr_iconstv (v := 1) F zd_XFixed_turn_31 (by decide) ?_
  refine zr_iadd F zd_XFixed_turn_32 ?_
  refine zr_pcn 33 rfl ?_
  obtain ⟨i20, ei20, h⟩ := zoL_s h
  rw [← ei20]
  obtain ⟨le22, hs21, h⟩ := zoS_s h
  obtain ⟨hi23, h⟩ := zoI_s h
  refine zr_iald F zd_XFixed_turn_33 (zW_a0 hs21) hi23 ?_
  refine zr_sipushv (v := 1024) F zd_XFixed_turn_34 (by decide) ?_
  refine zr_iadd F zd_XFixed_turn_37 ?_
  obtain ⟨x24, ex24, h⟩ := zoL_s h
  rw [← ex24]
  refine zr_callS1 F (c_XFixed_sin l D tA b _ _ x24) zd_XFixed_turn_38 zs_XFixed_47 zq_XFixed_sin rfl rfl ⟨(Nat.le_of_ble_eq_true rfl), (Nat.le_of_ble_eq_true rfl)⟩ (Nat.le_of_ble_eq_true rfl) ⟨(Nat.le_of_ble_eq_true rfl), (Nat.le_of_ble_eq_true rfl)⟩ ?_
  obtain ⟨x26, ex26, h⟩ := zoL_s h
  rw [← ex26]
  refine zr_istore F zd_XFixed_turn_41 (by decide) ?_
  refine zr_aload_n F zd_XFixed_turn_43 rfl ?_
  refine zr_iload_n F zd_XFixed_turn_44 rfl ?_
  refine zr_iconstv (v := 2) F zd_XFixed_turn_45 (by decide) ?_
  refine zr_pcn 46 rfl ?_
  refine zr_iadd F zd_XFixed_turn_46 ?_
  obtain ⟨i27, ei27, h⟩ := zoL_s h
  rw [← ei27]
  obtain ⟨le29, hs28, h⟩ := zoS_s h
  obtain ⟨hi30, h⟩ := zoI_s h
  refine zr_iald F zd_XFixed_turn_47 (zW_a0 hs28) hi30 ?_
  obtain ⟨x31, ex31, h⟩ := zoL_s h
  rw [← ex31]
  refine zr_callS1 F (c_XFixed_sin l D tA b _ _ x31) zd_XFixed_turn_48 zs_XFixed_47 zq_XFixed_sin rfl rfl ⟨(Nat.le_of_ble_eq_true rfl), (Nat.le_of_ble_eq_true rfl)⟩ (Nat.le_of_ble_eq_true rfl) ⟨(Nat.le_of_ble_eq_true rfl), (Nat.le_of_ble_eq_true rfl)⟩ ?_
  obtain ⟨x33, ex33, h⟩ := zoL_s h
  rw [← ex33]
  refine zr_istore F zd_XFixed_turn_51 (by decide) ?_
  refine zr_aload_n F zd_XFixed_turn_53 rfl ?_
  refine zr_iload_n F zd_XFixed_turn_54 rfl ?_
  refine zr_iconstv (v := 2) F zd_XFixed_turn_55 (by decide) ?_
  refine zr_iadd F zd_XFixed_turn_56 ?_
  refine zr_pcn 57 rfl ?_
  obtain ⟨i34, ei34, h⟩ := zoL_s h
  rw [← ei34]
  obtain ⟨le36, hs35, h⟩ := zoS_s h
  obtain ⟨hi37, h⟩ := zoI_s h
  refine zr_iald F zd_XFixed_turn_57 (zW_a0 hs35) hi37 ?_
  refine zr_sipushv (v := 1024) F zd_XFixed_turn_58 (by decide) ?_
  refine zr_iadd F zd_XFixed_turn_61 ?_
  obtain ⟨x38, ex38, h⟩ := zoL_s h
  rw [← ex38]
  refine zr_callS1 F (c_XFixed_sin l D tA b _ _ x38) zd_XFixed_turn_62 zs_XFixed_47 zq_XFixed_sin rfl rfl ⟨(Nat.le_of_ble_eq_true rfl), (Nat.le_of_ble_eq_true rfl)⟩ (Nat.le_of_ble_eq_true rfl) ⟨(Nat.le_of_ble_eq_true rfl), (Nat.le_of_ble_eq_true rfl)⟩ ?_
  obtain ⟨x40, ex40, h⟩ := zoL_s h
  rw [← ex40]
  refine zr_istore F zd_XFixed_turn_65 (by decide) ?_
  refine zr_aload_n F zd_XFixed_turn_67 rfl ?_
  refine zr_iconstv (v := 0) F zd_XFixed_turn_68 (by decide) ?_
  refine zr_iload F zd_XFixed_turn_69 rfl ?_
  refine zr_pcn 71 rfl ?_
  refine zr_i2l F zd_XFixed_turn_71 ?_
  refine zr_iload F zd_XFixed_turn_72 rfl ?_
  refine zr_i2l F zd_XFixed_turn_74 ?_
  refine zr_iload_n F zd_XFixed_turn_75 rfl ?_
  refine zr_i2l F zd_XFixed_turn_76 ?_
  refine zr_callS1 F (c_XFixed_mul l D tA b _ _ ((x19 : Int32).toInt64) ((x6 : Int32).toInt64)) zd_XFixed_turn_77 zs_XFixed_36 zq_XFixed_mul rfl rfl ⟨(Nat.le_of_ble_eq_true rfl), (Nat.le_of_ble_eq_true rfl)⟩ (Nat.le_of_ble_eq_true rfl) ⟨(Nat.le_of_ble_eq_true rfl), (Nat.le_of_ble_eq_true rfl)⟩ ?_
  refine zr_iload F zd_XFixed_turn_80 rfl ?_
  refine zr_iload F zd_XFixed_turn_82 rfl ?_
  refine zr_pcn 84 rfl ?_
  obtain ⟨x42, ex42, h⟩ := zoL_s h
  rw [← ex42]
  obtain ⟨p43, ep43, h⟩ := zoB_s h
  refine zr_callS0 F (k_XFixed_roll l D tA b sh _ ep43) zd_XFixed_turn_84 zs_XFixed_51 zq_XFixed_roll rfl rfl ⟨(Nat.le_of_ble_eq_true rfl), (Nat.le_of_ble_eq_true rfl)⟩ (Nat.le_of_ble_eq_true rfl) ⟨(Nat.le_of_ble_eq_true rfl), (Nat.le_of_ble_eq_true rfl)⟩ ?_
  refine zr_aload_n F zd_XFixed_turn_87 rfl ?_
  refine zr_iconstv (v := 2) F zd_XFixed_turn_88 (by decide) ?_
  refine zr_iload F zd_XFixed_turn_89 rfl ?_
  refine zr_i2l F zd_XFixed_turn_91 ?_
  refine zr_iload F zd_XFixed_turn_92 rfl ?_
  refine zr_i2l F zd_XFixed_turn_94 ?_
  refine zr_callS1 F (c_XFixed_mul l D tA b _ _ ((x19 : Int32).toInt64) ((x12 : Int32).toInt64)) zd_XFixed_turn_95 zs_XFixed_36 zq_XFixed_mul rfl rfl ⟨(Nat.le_of_ble_eq_true rfl), (Nat.le_of_ble_eq_true rfl)⟩ (Nat.le_of_ble_eq_true rfl) ⟨(Nat.le_of_ble_eq_true rfl), (Nat.le_of_ble_eq_true rfl)⟩ ?_
  refine zr_pcn 98 rfl ?_
  refine zr_l2i F zd_XFixed_turn_98 ?_
  obtain ⟨x45, ex45, h⟩ := zoL_s h
  rw [← ex45]
  obtain ⟨le47, hs46, h⟩ := zoS_s h
  obtain ⟨hi48, h⟩ := zoI_s h
  refine zr_iast F zd_XFixed_turn_99 (zW_a0 hs46) hi48 ?_
  obtain ⟨mm49, emm49, h⟩ := zoL_s h
  refine zr_norm (zW tA b sh mm49) _ (by rw [emm49]; exact zW_s0 hs46) rfl ?_
  refine zr_aload_n F zd_XFixed_turn_100 rfl ?_
  refine zr_iconstv (v := 4) F zd_XFixed_turn_101 (by decide) ?_
  refine zr_lconstv (v := 0) F zd_XFixed_turn_102 (by decide) ?_
  refine zr_iload F zd_XFixed_turn_103 rfl ?_
  refine zr_i2l F zd_XFixed_turn_105 ?_
  refine zr_iload F zd_XFixed_turn_106 rfl ?_
  refine zr_pcn 108 rfl ?_
  refine zr_iload F zd_XFixed_turn_108 rfl ?_
  obtain ⟨p50, ep50, h⟩ := zoB_s h
  refine zr_callS0 F (k_XFixed_roll l D tA b sh _ ep50) zd_XFixed_turn_110 zs_XFixed_51 zq_XFixed_roll rfl rfl ⟨(Nat.le_of_ble_eq_true rfl), (Nat.le_of_ble_eq_true rfl)⟩ (Nat.le_of_ble_eq_true rfl) ⟨(Nat.le_of_ble_eq_true rfl), (Nat.le_of_ble_eq_true rfl)⟩ ?_
  refine zr_aload_n F zd_XFixed_turn_113 rfl ?_
  refine zr_bipushv (v := 6) F zd_XFixed_turn_114 (by decide) ?_
  refine zr_iload_n F zd_XFixed_turn_116 rfl ?_
  refine zr_ineg F zd_XFixed_turn_117 ?_
  obtain ⟨x51, ex51, h⟩ := zoL_s h
  rw [← ex51]
  obtain ⟨le53, hs52, h⟩ := zoS_s h
  obtain ⟨hi54, h⟩ := zoI_s h
  refine zr_iast F zd_XFixed_turn_118 (zW_a0 hs52) hi54 ?_
  obtain ⟨mm55, emm55, h⟩ := zoL_s h
  refine zr_norm (zW tA b sh mm55) _ (by rw [emm55]; exact zW_s0 hs52) rfl ?_
  refine zr_aload_n F zd_XFixed_turn_119 rfl ?_
  refine zr_pcn 120 rfl ?_
  refine zr_bipushv (v := 8) F zd_XFixed_turn_120 (by decide) ?_
  refine zr_iload F zd_XFixed_turn_122 rfl ?_
  refine zr_ineg F zd_XFixed_turn_124 ?_
  refine zr_i2l F zd_XFixed_turn_125 ?_
  refine zr_iload F zd_XFixed_turn_126 rfl ?_
  refine zr_i2l F zd_XFixed_turn_128 ?_
  refine zr_iload_n F zd_XFixed_turn_129 rfl ?_
  refine zr_i2l F zd_XFixed_turn_130 ?_
  refine zr_pcn 131 rfl ?_
  refine zr_callS1 F (c_XFixed_mul l D tA b _ _ ((x26 : Int32).toInt64) ((x6 : Int32).toInt64)) zd_XFixed_turn_131 zs_XFixed_36 zq_XFixed_mul rfl rfl ⟨(Nat.le_of_ble_eq_true rfl), (Nat.le_of_ble_eq_true rfl)⟩ (Nat.le_of_ble_eq_true rfl) ⟨(Nat.le_of_ble_eq_true rfl), (Nat.le_of_ble_eq_true rfl)⟩ ?_
  refine zr_iload F zd_XFixed_turn_134 rfl ?_
  refine zr_iload F zd_XFixed_turn_136 rfl ?_
  obtain ⟨x57, ex57, h⟩ := zoL_s h
  rw [← ex57]
  obtain ⟨p58, ep58, h⟩ := zoB_s h
  refine zr_callS0 F (k_XFixed_roll l D tA b sh _ ep58) zd_XFixed_turn_138 zs_XFixed_51 zq_XFixed_roll rfl rfl ⟨(Nat.le_of_ble_eq_true rfl), (Nat.le_of_ble_eq_true rfl)⟩ (Nat.le_of_ble_eq_true rfl) ⟨(Nat.le_of_ble_eq_true rfl), (Nat.le_of_ble_eq_true rfl)⟩ ?_
  refine zr_aload_n F zd_XFixed_turn_141 rfl ?_
  refine zr_bipushv (v := 10) F zd_XFixed_turn_142 (by decide) ?_
  refine zr_iload F zd_XFixed_turn_144 rfl ?_
  refine zr_i2l F zd_XFixed_turn_146 ?_
  refine zr_pcn 147 rfl ?_
  refine zr_iload F zd_XFixed_turn_147 rfl ?_
  refine zr_i2l F zd_XFixed_turn_149 ?_
  refine zr_callS1 F (c_XFixed_mul l D tA b _ _ ((x26 : Int32).toInt64) ((x12 : Int32).toInt64)) zd_XFixed_turn_150 zs_XFixed_36 zq_XFixed_mul rfl rfl ⟨(Nat.le_of_ble_eq_true rfl), (Nat.le_of_ble_eq_true rfl)⟩ (Nat.le_of_ble_eq_true rfl) ⟨(Nat.le_of_ble_eq_true rfl), (Nat.le_of_ble_eq_true rfl)⟩ ?_
  refine zr_l2i F zd_XFixed_turn_153 ?_
  obtain ⟨x60, ex60, h⟩ := zoL_s h
  rw [← ex60]
  obtain ⟨le62, hs61, h⟩ := zoS_s h
  obtain ⟨hi63, h⟩ := zoI_s h
  refine zr_iast F zd_XFixed_turn_154 (zW_a0 hs61) hi63 ?_
  obtain ⟨mm64, emm64, h⟩ := zoL_s h
  refine zr_norm (zW tA b sh mm64) _ (by rw [emm64]; exact zW_s0 hs61) rfl ?_
  obtain rfl := Option.some.inj h
  exact zr_vret F hr zd_XFixed_turn_155 (Nat.le_of_ble_eq_true rfl) (Nat.le_of_ble_eq_true rfl) ⟨rfl, rfl, rfl⟩
abbrev zb_XNode_placeLocal : ByteArray := prog_4_method_2_code
def zy_XNode_placeLocal : MethodName := ⟨"OrreryBox$Node", "placeLocal", "([I)V"⟩
theorem zc_XNode_placeLocal : Cond.code zy_XNode_placeLocal zb_XNode_placeLocal 4 none ∈ gw := gw_t 629 (by decide +kernel) rfl
theorem zq_XNode_placeLocal : zy_XNode_placeLocal.cls ≠ "java/lang/invoke/MethodHandle" ∧ zy_XNode_placeLocal.cls ≠ "java/lang/invoke/VarHandle" ∧ (parseMethodDescriptor zy_XNode_placeLocal.desc).map (fun d => d.parameters.length) = some 1 := by decide +kernel
theorem zd_XNode_placeLocal_0 : decode zb_XNode_placeLocal 0 = .ok (.aload_n 0, 1) := by decide +kernel
theorem zd_XNode_placeLocal_1 : decode zb_XNode_placeLocal 1 = .ok (.getfield 7, 3) := by decide +kernel
theorem zd_XNode_placeLocal_4 : decode zb_XNode_placeLocal 4 = .ok (.iconst 3, 1) := by decide +kernel
theorem zd_XNode_placeLocal_5 : decode zb_XNode_placeLocal 5 = .ok (.aload_n 1, 1) := by decide +kernel
theorem zd_XNode_placeLocal_6 : decode zb_XNode_placeLocal 6 = .ok (.invokestatic 16, 3) := by decide +kernel
theorem zd_XNode_placeLocal_9 : decode zb_XNode_placeLocal 9 = .ok (.iconst 0, 1) := by decide +kernel
theorem zd_XNode_placeLocal_10 : decode zb_XNode_placeLocal 10 = .ok (.istore_n 2, 1) := by decide +kernel
theorem zd_XNode_placeLocal_11 : decode zb_XNode_placeLocal 11 = .ok (.iload_n 2, 1) := by decide +kernel
theorem zd_XNode_placeLocal_12 : decode zb_XNode_placeLocal 12 = .ok (.iconst 3, 1) := by decide +kernel
theorem zd_XNode_placeLocal_13 : decode zb_XNode_placeLocal 13 = .ok (.if_icmp .ge 66, 3) := by decide +kernel
theorem zd_XNode_placeLocal_16 : decode zb_XNode_placeLocal 16 = .ok (.iconst 0, 1) := by decide +kernel
theorem zd_XNode_placeLocal_17 : decode zb_XNode_placeLocal 17 = .ok (.istore_n 3, 1) := by decide +kernel
theorem zd_XNode_placeLocal_18 : decode zb_XNode_placeLocal 18 = .ok (.iload_n 3, 1) := by decide +kernel
theorem zd_XNode_placeLocal_19 : decode zb_XNode_placeLocal 19 = .ok (.iconst 3, 1) := by decide +kernel
theorem zd_XNode_placeLocal_20 : decode zb_XNode_placeLocal 20 = .ok (.if_icmp .ge 40, 3) := by decide +kernel
theorem zd_XNode_placeLocal_23 : decode zb_XNode_placeLocal 23 = .ok (.aload_n 1, 1) := by decide +kernel
theorem zd_XNode_placeLocal_24 : decode zb_XNode_placeLocal 24 = .ok (.iconst 4, 1) := by decide +kernel
theorem zd_XNode_placeLocal_25 : decode zb_XNode_placeLocal 25 = .ok (.iload_n 2, 1) := by decide +kernel
theorem zd_XNode_placeLocal_26 : decode zb_XNode_placeLocal 26 = .ok (.imul, 1) := by decide +kernel
theorem zd_XNode_placeLocal_27 : decode zb_XNode_placeLocal 27 = .ok (.iload_n 3, 1) := by decide +kernel
theorem zd_XNode_placeLocal_28 : decode zb_XNode_placeLocal 28 = .ok (.iadd, 1) := by decide +kernel
theorem zd_XNode_placeLocal_29 : decode zb_XNode_placeLocal 29 = .ok (.aload_n 1, 1) := by decide +kernel
theorem zd_XNode_placeLocal_30 : decode zb_XNode_placeLocal 30 = .ok (.iconst 4, 1) := by decide +kernel
theorem zd_XNode_placeLocal_31 : decode zb_XNode_placeLocal 31 = .ok (.iload_n 2, 1) := by decide +kernel
theorem zd_XNode_placeLocal_32 : decode zb_XNode_placeLocal 32 = .ok (.imul, 1) := by decide +kernel
theorem zd_XNode_placeLocal_33 : decode zb_XNode_placeLocal 33 = .ok (.iload_n 3, 1) := by decide +kernel
theorem zd_XNode_placeLocal_34 : decode zb_XNode_placeLocal 34 = .ok (.iadd, 1) := by decide +kernel
theorem zd_XNode_placeLocal_35 : decode zb_XNode_placeLocal 35 = .ok (.iaload, 1) := by decide +kernel
theorem zd_XNode_placeLocal_36 : decode zb_XNode_placeLocal 36 = .ok (.i2l, 1) := by decide +kernel
theorem zd_XNode_placeLocal_37 : decode zb_XNode_placeLocal 37 = .ok (.aload_n 0, 1) := by decide +kernel
theorem zd_XNode_placeLocal_38 : decode zb_XNode_placeLocal 38 = .ok (.getfield 7, 3) := by decide +kernel
theorem zd_XNode_placeLocal_41 : decode zb_XNode_placeLocal 41 = .ok (.bipush 6, 2) := by decide +kernel
theorem zd_XNode_placeLocal_43 : decode zb_XNode_placeLocal 43 = .ok (.iload_n 3, 1) := by decide +kernel
theorem zd_XNode_placeLocal_44 : decode zb_XNode_placeLocal 44 = .ok (.iadd, 1) := by decide +kernel
theorem zd_XNode_placeLocal_45 : decode zb_XNode_placeLocal 45 = .ok (.iaload, 1) := by decide +kernel
theorem zd_XNode_placeLocal_46 : decode zb_XNode_placeLocal 46 = .ok (.i2l, 1) := by decide +kernel
theorem zd_XNode_placeLocal_47 : decode zb_XNode_placeLocal 47 = .ok (.invokestatic 22, 3) := by decide +kernel
theorem zd_XNode_placeLocal_50 : decode zb_XNode_placeLocal 50 = .ok (.invokestatic 26, 3) := by decide +kernel
theorem zd_XNode_placeLocal_53 : decode zb_XNode_placeLocal 53 = .ok (.iastore, 1) := by decide +kernel
theorem zd_XNode_placeLocal_54 : decode zb_XNode_placeLocal 54 = .ok (.iinc 3 1, 3) := by decide +kernel
theorem zd_XNode_placeLocal_57 : decode zb_XNode_placeLocal 57 = .ok (.goto (-39), 3) := by decide +kernel
theorem zd_XNode_placeLocal_60 : decode zb_XNode_placeLocal 60 = .ok (.aload_n 1, 1) := by decide +kernel
theorem zd_XNode_placeLocal_61 : decode zb_XNode_placeLocal 61 = .ok (.iconst 4, 1) := by decide +kernel
theorem zd_XNode_placeLocal_62 : decode zb_XNode_placeLocal 62 = .ok (.iload_n 2, 1) := by decide +kernel
theorem zd_XNode_placeLocal_63 : decode zb_XNode_placeLocal 63 = .ok (.imul, 1) := by decide +kernel
theorem zd_XNode_placeLocal_64 : decode zb_XNode_placeLocal 64 = .ok (.iconst 3, 1) := by decide +kernel
theorem zd_XNode_placeLocal_65 : decode zb_XNode_placeLocal 65 = .ok (.iadd, 1) := by decide +kernel
theorem zd_XNode_placeLocal_66 : decode zb_XNode_placeLocal 66 = .ok (.aload_n 0, 1) := by decide +kernel
theorem zd_XNode_placeLocal_67 : decode zb_XNode_placeLocal 67 = .ok (.getfield 7, 3) := by decide +kernel
theorem zd_XNode_placeLocal_70 : decode zb_XNode_placeLocal 70 = .ok (.iload_n 2, 1) := by decide +kernel
theorem zd_XNode_placeLocal_71 : decode zb_XNode_placeLocal 71 = .ok (.iaload, 1) := by decide +kernel
theorem zd_XNode_placeLocal_72 : decode zb_XNode_placeLocal 72 = .ok (.iastore, 1) := by decide +kernel
theorem zd_XNode_placeLocal_73 : decode zb_XNode_placeLocal 73 = .ok (.iinc 2 1, 3) := by decide +kernel
theorem zd_XNode_placeLocal_76 : decode zb_XNode_placeLocal 76 = .ok (.goto (-65), 3) := by decide +kernel
theorem zd_XNode_placeLocal_79 : decode zb_XNode_placeLocal 79 = .ok (.return_, 1) := by decide +kernel
theorem zw_630 : (Jvm.Cond.methodLink "OrreryBox$Node" (16 : Nat) ({ cls := "OrreryBox$Fixed", name := "turn", desc := "([II[I)V" } : Jvm.MethodName)) ∈ gw := gw_t 630 (by decide +kernel) rfl
theorem zs_XNode_16 : zwS "OrreryBox$Node" 16 zy_XFixed_turn zb_XFixed_turn 9 none := ⟨zw_630, zw_631, zw_27, zc_XFixed_turn⟩
theorem zw_645 : (Jvm.Cond.methodLink "OrreryBox$Node" (22 : Nat) ({ cls := "OrreryBox$Fixed", name := "mul", desc := "(JJ)J" } : Jvm.MethodName)) ∈ gw := gw_t 645 (by decide +kernel) rfl
theorem zs_XNode_22 : zwS "OrreryBox$Node" 22 zy_XFixed_mul zb_XFixed_mul 4 (some .long) := ⟨zw_645, zw_578, zw_27, zc_XFixed_mul⟩
theorem zw_646 : (Jvm.Cond.methodLink "OrreryBox$Node" (26 : Nat) ({ cls := "OrreryBox$Fixed", name := "bound", desc := "(J)I" } : Jvm.MethodName)) ∈ gw := gw_t 646 (by decide +kernel) rfl
theorem zs_XNode_26 : zwS "OrreryBox$Node" 26 zy_XFixed_bound zb_XFixed_bound 2 (some .int) := ⟨zw_646, zw_647, zw_27, zc_XFixed_bound⟩
def L_XNode_placeLocal_18 (sh : zSh) (fuel : Nat) (v0 : Nat) (v1 : Nat) (v2 : Int32) (v3 : Int32) (mm : zMem) : Option (Nat × Nat × Int32 × Int32 × zMem) := match fuel with
  | 0 => none
  | fu + 1 => (if 3 ≤ v3 then some (v0, v1, v2, v3, mm) else zoL ((4 * v2) + v3) (fun i7 => zoS (sh v1) 100 (fun le9 => if (i7 : Int32) < 0 ∨ le9 ≤ (i7 : Int32).toNatClampNeg then none else zoS (sh v0) 3 (fun le12 => Option.bind (mm.2.2 v0 4) (fun a13 => zoL (6 + v3) (fun i14 => zoS (sh a13) 100 (fun le16 => if (i14 : Int32) < 0 ∨ le16 ≤ (i14 : Int32).toNatClampNeg then none else zoL (((mm.1 v1 (i7 : Int32).toNatClampNeg) : Int32).toInt64) (fun x18 => zoL (((mm.1 a13 (i14 : Int32).toNatClampNeg) : Int32).toInt64) (fun x19 => zoL (zx_bound (zx_mul x18 x19)) (fun x22 => zoS (sh v1) 100 (fun le24 => if (i7 : Int32) < 0 ∨ le24 ≤ (i7 : Int32).toNatClampNeg then none else zoL (mI mm v1 (i7 : Int32).toNatClampNeg x22) (fun mm26 => L_XNode_placeLocal_18 sh fu v0 v1 v2 (v3 + 1) mm26))))))))))))
set_option maxHeartbeats 4000000 in
set_option maxRecDepth 100000 in
theorem lp_XNode_placeLocal_18 {p : Program} {l : Launch} {e : Env} {s : State} {m : MethodId} {args : Array Value} {below : List Frame} {meth : Method} {c : Code} {D : va_G} {tA : Nat → ClassId} {b n : Nat} {post : Option Value → zV → Nat → Prop} {sh : zSh} (F : zF p s m args meth c zb_XNode_placeLocal 4 "OrreryBox$Node" D tA b) : ∀ (fuel : Nat) (v0 : Nat) (v1 : Nat) (v2 : Int32) (v3 : Int32) (mm : zMem) (r : Nat × Nat × Int32 × Int32 × zMem), L_XNode_placeLocal_18 sh fuel v0 v1 v2 v3 mm = some r → (Z p l e { frames := 4, cells := 0, slots := 0, locals := 102 } s m args below meth c D b 4 (MQ below (zQ D b post) args s 0 0 (fun q => b ≤ q)) (zW tA b sh r.2.2.2.2) n 0 0 60 [(0, .ref (b + (r.1))), (1, .ref (b + (r.2.1))), (2, .int (r.2.2.1)), (3, .int (r.2.2.2.1))] []) → Z p l e { frames := 4, cells := 0, slots := 0, locals := 102 } s m args below meth c D b 4 (MQ below (zQ D b post) args s 0 0 (fun q => b ≤ q)) (zW tA b sh mm) n 0 0 18 [(0, .ref (b + v0)), (1, .ref (b + v1)), (2, .int v2), (3, .int v3)] [] := by
  intro fuel
  induction fuel with
  | zero =>
    intro v0 v1 v2 v3 mm r h
    cases h
  | succ fu ih =>
    intro v0 v1 v2 v3 mm r h hx0
    rw [L_XNode_placeLocal_18] at h
    refine zr_iload_n F zd_XNode_placeLocal_18 rfl ?_
    refine zr_iconstv (v := 3) F zd_XNode_placeLocal_19 (by decide) ?_
    refine zr_icmp_ge F 60 zd_XNode_placeLocal_20 (by decide) (fun hb6 => ?_) (fun hb6 => ?_)
    ·
      rw [if_pos hb6] at h
      obtain rfl := Option.some.inj h
      refine zr_loc (L' := [(0, .ref (b + v0)), (1, .ref (b + v1)), (2, .int v2), (3, .int v3)]) ⟨rfl, rfl, rfl, rfl, trivial⟩ ?_
      exact hx0 
    ·
      rw [if_neg hb6] at h
      refine zr_pcn 23 rfl ?_
      refine zr_aload_n F zd_XNode_placeLocal_23 rfl ?_
      refine zr_iconstv (v := 4) F zd_XNode_placeLocal_24 (by decide) ?_
      refine zr_iload_n F zd_XNode_placeLocal_25 rfl ?_
      refine zr_imul F zd_XNode_placeLocal_26 ?_
      refine zr_iload_n F zd_XNode_placeLocal_27 rfl ?_
      refine zr_iadd F zd_XNode_placeLocal_28 ?_
      refine zr_aload_n F zd_XNode_placeLocal_29 rfl ?_
      refine zr_iconstv (v := 4) F zd_XNode_placeLocal_30 (by decide) ?_
      refine zr_pcn 31 rfl ?_
      refine zr_iload_n F zd_XNode_placeLocal_31 rfl ?_
      refine zr_imul F zd_XNode_placeLocal_32 ?_
      refine zr_iload_n F zd_XNode_placeLocal_33 rfl ?_
      refine zr_iadd F zd_XNode_placeLocal_34 ?_
      obtain ⟨i7, ei7, h⟩ := zoL_s h
      rw [← ei7]
      obtain ⟨le9, hs8, h⟩ := zoS_s h
      obtain ⟨hi10, h⟩ := zoI_s h
      refine zr_iald F zd_XNode_placeLocal_35 (zW_a0 hs8) hi10 ?_
      refine zr_i2l F zd_XNode_placeLocal_36 ?_
      refine zr_aload_n F zd_XNode_placeLocal_37 rfl ?_
      obtain ⟨le12, hs11, h⟩ := zoS_s h
      obtain ⟨a13, ea13, h⟩ := zoB_s h
      refine zr_get F 3 4 zd_XNode_placeLocal_38 (zW_o hs11 (by decide)) rfl (by decide) zw_225 rfl (by rfl) ?_
      refine zr_tor ea13 ?_
      refine zr_pcn 41 rfl ?_
      refine zr_bipushv (v := 6) F zd_XNode_placeLocal_41 (by decide) ?_
      refine zr_iload_n F zd_XNode_placeLocal_43 rfl ?_
      refine zr_iadd F zd_XNode_placeLocal_44 ?_
      obtain ⟨i14, ei14, h⟩ := zoL_s h
      rw [← ei14]
      obtain ⟨le16, hs15, h⟩ := zoS_s h
      obtain ⟨hi17, h⟩ := zoI_s h
      refine zr_iald F zd_XNode_placeLocal_45 (zW_a0 hs15) hi17 ?_
      refine zr_i2l F zd_XNode_placeLocal_46 ?_
      obtain ⟨x18, ex18, h⟩ := zoL_s h
      rw [← ex18]
      obtain ⟨x19, ex19, h⟩ := zoL_s h
      rw [← ex19]
      refine zr_callS1 F (c_XFixed_mul l D tA b _ _ x18 x19) zd_XNode_placeLocal_47 zs_XNode_22 zq_XFixed_mul rfl rfl ⟨(Nat.le_of_ble_eq_true rfl), (Nat.le_of_ble_eq_true rfl)⟩ (Nat.le_of_ble_eq_true rfl) ⟨(Nat.le_of_ble_eq_true rfl), (Nat.le_of_ble_eq_true rfl)⟩ ?_
      refine zr_callS1 F (c_XFixed_bound l D tA b _ _ (zx_mul x18 x19)) zd_XNode_placeLocal_50 zs_XNode_26 zq_XFixed_bound rfl rfl ⟨(Nat.le_of_ble_eq_true rfl), (Nat.le_of_ble_eq_true rfl)⟩ (Nat.le_of_ble_eq_true rfl) ⟨(Nat.le_of_ble_eq_true rfl), (Nat.le_of_ble_eq_true rfl)⟩ ?_
      obtain ⟨x22, ex22, h⟩ := zoL_s h
      rw [← ex22]
      obtain ⟨le24, hs23, h⟩ := zoS_s h
      obtain ⟨hi25, h⟩ := zoI_s h
      refine zr_iast F zd_XNode_placeLocal_53 (zW_a0 hs23) hi25 ?_
      obtain ⟨mm26, emm26, h⟩ := zoL_s h
      refine zr_norm (zW tA b sh mm26) _ (by rw [emm26]; exact zW_s0 hs23) rfl ?_
      refine zr_pcn 54 rfl ?_
      refine zr_iinc (v := (v3 + 1)) F zd_XNode_placeLocal_54 rfl rfl (by decide) ?_
      refine zr_goto F 18 zd_XNode_placeLocal_57 (by decide) ?_
      refine zr_loc (L' := [(0, .ref (b + v0)), (1, .ref (b + v1)), (2, .int v2), (3, .int (v3 + 1))]) ⟨rfl, rfl, rfl, rfl, trivial⟩ ?_
      exact ih _ _ _ _ _ _ h hx0
def L_XNode_placeLocal_11 (sh : zSh) (fuel : Nat) (v0 : Nat) (v1 : Nat) (v2 : Int32) (mm : zMem) : Option (Nat × Nat × Int32 × zMem) := match fuel with
  | 0 => none
  | fu + 1 => (if 3 ≤ v2 then some (v0, v1, v2, mm) else Option.bind (L_XNode_placeLocal_18 sh zfuel v0 v1 v2 0 mm) (fun q27 => zoS (sh (q27.1)) 3 (fun le29 => Option.bind ((q27.2.2.2.2).2.2 (q27.1) 4) (fun a30 => zoS (sh a30) 100 (fun le32 => if (q27.2.2.1 : Int32) < 0 ∨ le32 ≤ (q27.2.2.1 : Int32).toNatClampNeg then none else zoL ((q27.2.2.2.2).1 a30 (q27.2.2.1 : Int32).toNatClampNeg) (fun x34 => zoL ((4 * q27.2.2.1) + 3) (fun i35 => zoS (sh (q27.2.1)) 100 (fun le37 => if (i35 : Int32) < 0 ∨ le37 ≤ (i35 : Int32).toNatClampNeg then none else zoL (mI (q27.2.2.2.2) (q27.2.1) (i35 : Int32).toNatClampNeg x34) (fun mm39 => L_XNode_placeLocal_11 sh fu (q27.1) (q27.2.1) (q27.2.2.1 + 1) mm39)))))))))
set_option maxHeartbeats 4000000 in
set_option maxRecDepth 100000 in
theorem lp_XNode_placeLocal_11 {p : Program} {l : Launch} {e : Env} {s : State} {m : MethodId} {args : Array Value} {below : List Frame} {meth : Method} {c : Code} {D : va_G} {tA : Nat → ClassId} {b n : Nat} {post : Option Value → zV → Nat → Prop} {sh : zSh} (F : zF p s m args meth c zb_XNode_placeLocal 4 "OrreryBox$Node" D tA b) : ∀ (fuel : Nat) (v0 : Nat) (v1 : Nat) (v2 : Int32) (mm : zMem) (r : Nat × Nat × Int32 × zMem), L_XNode_placeLocal_11 sh fuel v0 v1 v2 mm = some r → (Z p l e { frames := 4, cells := 0, slots := 0, locals := 102 } s m args below meth c D b 4 (MQ below (zQ D b post) args s 0 0 (fun q => b ≤ q)) (zW tA b sh r.2.2.2) n 0 0 79 [(0, .ref (b + (r.1))), (1, .ref (b + (r.2.1))), (2, .int (r.2.2.1))] []) → Z p l e { frames := 4, cells := 0, slots := 0, locals := 102 } s m args below meth c D b 4 (MQ below (zQ D b post) args s 0 0 (fun q => b ≤ q)) (zW tA b sh mm) n 0 0 11 [(0, .ref (b + v0)), (1, .ref (b + v1)), (2, .int v2)] [] := by
  intro fuel
  induction fuel with
  | zero =>
    intro v0 v1 v2 mm r h
    cases h
  | succ fu ih =>
    intro v0 v1 v2 mm r h hx0
    rw [L_XNode_placeLocal_11] at h
    refine zr_pcn 11 rfl ?_
    refine zr_iload_n F zd_XNode_placeLocal_11 rfl ?_
    refine zr_iconstv (v := 3) F zd_XNode_placeLocal_12 (by decide) ?_
    refine zr_icmp_ge F 79 zd_XNode_placeLocal_13 (by decide) (fun hb5 => ?_) (fun hb5 => ?_)
    ·
      rw [if_pos hb5] at h
      obtain rfl := Option.some.inj h
      refine zr_loc (L' := [(0, .ref (b + v0)), (1, .ref (b + v1)), (2, .int v2)]) ⟨rfl, rfl, rfl, trivial⟩ ?_
      exact hx0 
    ·
      rw [if_neg hb5] at h
      refine zr_iconstv (v := 0) F zd_XNode_placeLocal_16 (by decide) ?_
      refine zr_istore_n F zd_XNode_placeLocal_17 (by decide) ?_
      obtain ⟨q27, eq27, h⟩ := zoB_s h
      refine zr_loc (L' := [(0, .ref (b + v0)), (1, .ref (b + v1)), (2, .int v2), (3, .int 0)]) ⟨rfl, rfl, rfl, rfl, trivial⟩ ?_
      refine lp_XNode_placeLocal_18 F _ _ _ _ _ _ _ eq27 ?_
      ·
        refine zr_aload_n F zd_XNode_placeLocal_60 rfl ?_
        refine zr_iconstv (v := 4) F zd_XNode_placeLocal_61 (by decide) ?_
        refine zr_iload_n F zd_XNode_placeLocal_62 rfl ?_
        refine zr_imul F zd_XNode_placeLocal_63 ?_
        refine zr_iconstv (v := 3) F zd_XNode_placeLocal_64 (by decide) ?_
        refine zr_iadd F zd_XNode_placeLocal_65 ?_
        refine zr_pcn 66 rfl ?_
        refine zr_aload_n F zd_XNode_placeLocal_66 rfl ?_
        obtain ⟨le29, hs28, h⟩ := zoS_s h
        obtain ⟨a30, ea30, h⟩ := zoB_s h
        refine zr_get F 3 4 zd_XNode_placeLocal_67 (zW_o hs28 (by decide)) rfl (by decide) zw_225 rfl (by rfl) ?_
        refine zr_tor ea30 ?_
        refine zr_iload_n F zd_XNode_placeLocal_70 rfl ?_
        obtain ⟨le32, hs31, h⟩ := zoS_s h
        obtain ⟨hi33, h⟩ := zoI_s h
        refine zr_iald F zd_XNode_placeLocal_71 (zW_a0 hs31) hi33 ?_
        obtain ⟨x34, ex34, h⟩ := zoL_s h
        rw [← ex34]
        obtain ⟨i35, ei35, h⟩ := zoL_s h
        rw [← ei35]
        obtain ⟨le37, hs36, h⟩ := zoS_s h
        obtain ⟨hi38, h⟩ := zoI_s h
        refine zr_iast F zd_XNode_placeLocal_72 (zW_a0 hs36) hi38 ?_
        obtain ⟨mm39, emm39, h⟩ := zoL_s h
        refine zr_norm (zW tA b sh mm39) _ (by rw [emm39]; exact zW_s0 hs36) rfl ?_
        refine zr_iinc (v := (q27.2.2.1 + 1)) F zd_XNode_placeLocal_73 rfl rfl (by decide) ?_
        refine zr_goto F 11 zd_XNode_placeLocal_76 (by decide) ?_
        refine zr_loc (L' := [(0, .ref (b + (q27.1))), (1, .ref (b + (q27.2.1))), (2, .int (q27.2.2.1 + 1))]) ⟨rfl, rfl, rfl, trivial⟩ ?_
        exact ih _ _ _ _ _ h hx0
def F_XNode_placeLocal (sh : zSh) (mm : zMem) (o : Nat) (x0_ : Nat) : Option zMem := zoS (sh o) 3 (fun le2 => Option.bind (mm.2.2 o 4) (fun a3 => Option.bind (F_XFixed_turn sh mm a3 3 x0_) (fun p4 => Option.bind (L_XNode_placeLocal_11 sh zfuel o x0_ 0 p4) (fun q40 => some (q40.2.2.2)))))
set_option maxHeartbeats 4000000 in
set_option maxRecDepth 100000 in
theorem k_XNode_placeLocal (l : Launch) (D : va_G) (tA : Nat → ClassId) (b : Nat) (sh : zSh) (n : Nat) {mm : zMem} {o : Nat} {x0_ : Nat} {r : zMem} (h : F_XNode_placeLocal sh mm o x0_ = some r) : zM l D tA b zy_XNode_placeLocal zb_XNode_placeLocal 4 none 4 102 0 0 [.ref (b + o), .ref (b + x0_)] (zW tA b sh mm) n (zE none (zW tA b sh r) n) := by
  unfold F_XNode_placeLocal at h
  refine zM_of (own := "OrreryBox$Node") (plainFor_of_name (by decide)) rfl (Nat.le_of_ble_eq_true rfl) (fun p e s m below meth c F hr hin hH => ?_)
  refine zr_aload_n F zd_XNode_placeLocal_0 rfl ?_
  obtain ⟨le2, hs1, h⟩ := zoS_s h
  obtain ⟨a3, ea3, h⟩ := zoB_s h
  refine zr_get F 3 4 zd_XNode_placeLocal_1 (zW_o hs1 (by decide)) rfl (by decide) zw_225 rfl (by rfl) ?_
  refine zr_tor ea3 ?_
  refine zr_iconstv (v := 3) F zd_XNode_placeLocal_4 (by decide) ?_
  refine zr_aload_n F zd_XNode_placeLocal_5 rfl ?_
  obtain ⟨p4, ep4, h⟩ := zoB_s h
  refine zr_callS0 F (k_XFixed_turn l D tA b sh _ ep4) zd_XNode_placeLocal_6 zs_XNode_16 zq_XFixed_turn rfl rfl ⟨(Nat.le_of_ble_eq_true rfl), (Nat.le_of_ble_eq_true rfl)⟩ (Nat.le_of_ble_eq_true rfl) ⟨(Nat.le_of_ble_eq_true rfl), (Nat.le_of_ble_eq_true rfl)⟩ ?_
  refine zr_iconstv (v := 0) F zd_XNode_placeLocal_9 (by decide) ?_
  refine zr_istore_n F zd_XNode_placeLocal_10 (by decide) ?_
  obtain ⟨q40, eq40, h⟩ := zoB_s h
  refine zr_loc (L' := [(0, .ref (b + o)), (1, .ref (b + x0_)), (2, .int 0)]) ⟨rfl, rfl, rfl, trivial⟩ ?_
  refine lp_XNode_placeLocal_11 F _ _ _ _ _ _ eq40 ?_
  ·
    obtain rfl := Option.some.inj h
    exact zr_vret F hr zd_XNode_placeLocal_79 (Nat.le_of_ble_eq_true rfl) (Nat.le_of_ble_eq_true rfl) ⟨rfl, rfl, rfl⟩
abbrev zb_XPacker_bestFilter : ByteArray := prog_5_method_5_code
def zy_XPacker_bestFilter : MethodName := ⟨"OrreryBox$Packer", "bestFilter", "(II)I"⟩
theorem zc_XPacker_bestFilter : Cond.code zy_XPacker_bestFilter zb_XPacker_bestFilter 9 (some .int) ∈ gw := gw_t 919 (by decide +kernel) rfl
theorem zq_XPacker_bestFilter : zy_XPacker_bestFilter.cls ≠ "java/lang/invoke/MethodHandle" ∧ zy_XPacker_bestFilter.cls ≠ "java/lang/invoke/VarHandle" ∧ (parseMethodDescriptor zy_XPacker_bestFilter.desc).map (fun d => d.parameters.length) = some 2 := by decide +kernel
theorem zd_XPacker_bestFilter_0 : decode zb_XPacker_bestFilter 0 = .ok (.iconst 0, 1) := by decide +kernel
theorem zd_XPacker_bestFilter_1 : decode zb_XPacker_bestFilter 1 = .ok (.istore_n 3, 1) := by decide +kernel
theorem zd_XPacker_bestFilter_2 : decode zb_XPacker_bestFilter 2 = .ok (.ldc 81, 2) := by decide +kernel
theorem zd_XPacker_bestFilter_4 : decode zb_XPacker_bestFilter 4 = .ok (.istore 4, 2) := by decide +kernel
theorem zd_XPacker_bestFilter_6 : decode zb_XPacker_bestFilter 6 = .ok (.iconst 0, 1) := by decide +kernel
theorem zd_XPacker_bestFilter_7 : decode zb_XPacker_bestFilter 7 = .ok (.istore 5, 2) := by decide +kernel
theorem zd_XPacker_bestFilter_9 : decode zb_XPacker_bestFilter 9 = .ok (.iload 5, 2) := by decide +kernel
theorem zd_XPacker_bestFilter_11 : decode zb_XPacker_bestFilter 11 = .ok (.iconst 5, 1) := by decide +kernel
theorem zd_XPacker_bestFilter_12 : decode zb_XPacker_bestFilter 12 = .ok (.if_icmp .ge 76, 3) := by decide +kernel
theorem zd_XPacker_bestFilter_15 : decode zb_XPacker_bestFilter 15 = .ok (.iconst 0, 1) := by decide +kernel
theorem zd_XPacker_bestFilter_16 : decode zb_XPacker_bestFilter 16 = .ok (.istore 6, 2) := by decide +kernel
theorem zd_XPacker_bestFilter_18 : decode zb_XPacker_bestFilter 18 = .ok (.iconst 0, 1) := by decide +kernel
theorem zd_XPacker_bestFilter_19 : decode zb_XPacker_bestFilter 19 = .ok (.istore 7, 2) := by decide +kernel
theorem zd_XPacker_bestFilter_21 : decode zb_XPacker_bestFilter 21 = .ok (.iload 7, 2) := by decide +kernel
theorem zd_XPacker_bestFilter_23 : decode zb_XPacker_bestFilter 23 = .ok (.iload_n 2, 1) := by decide +kernel
theorem zd_XPacker_bestFilter_24 : decode zb_XPacker_bestFilter 24 = .ok (.if_icmp .ge 44, 3) := by decide +kernel
theorem zd_XPacker_bestFilter_27 : decode zb_XPacker_bestFilter 27 = .ok (.iload 6, 2) := by decide +kernel
theorem zd_XPacker_bestFilter_29 : decode zb_XPacker_bestFilter 29 = .ok (.iload 4, 2) := by decide +kernel
theorem zd_XPacker_bestFilter_31 : decode zb_XPacker_bestFilter 31 = .ok (.if_icmp .ge 37, 3) := by decide +kernel
theorem zd_XPacker_bestFilter_34 : decode zb_XPacker_bestFilter 34 = .ok (.aload_n 0, 1) := by decide +kernel
theorem zd_XPacker_bestFilter_35 : decode zb_XPacker_bestFilter 35 = .ok (.iload 5, 2) := by decide +kernel
theorem zd_XPacker_bestFilter_37 : decode zb_XPacker_bestFilter 37 = .ok (.iload 7, 2) := by decide +kernel
theorem zd_XPacker_bestFilter_39 : decode zb_XPacker_bestFilter 39 = .ok (.iload_n 1, 1) := by decide +kernel
theorem zd_XPacker_bestFilter_40 : decode zb_XPacker_bestFilter 40 = .ok (.iload_n 2, 1) := by decide +kernel
theorem zd_XPacker_bestFilter_41 : decode zb_XPacker_bestFilter 41 = .ok (.invokevirtual 77, 3) := by decide +kernel
theorem zd_XPacker_bestFilter_44 : decode zb_XPacker_bestFilter 44 = .ok (.istore 8, 2) := by decide +kernel
theorem zd_XPacker_bestFilter_46 : decode zb_XPacker_bestFilter 46 = .ok (.iload 6, 2) := by decide +kernel
theorem zd_XPacker_bestFilter_48 : decode zb_XPacker_bestFilter 48 = .ok (.iload 8, 2) := by decide +kernel
theorem zd_XPacker_bestFilter_50 : decode zb_XPacker_bestFilter 50 = .ok (.sipush 256, 3) := by decide +kernel
theorem zd_XPacker_bestFilter_53 : decode zb_XPacker_bestFilter 53 = .ok (.iload 8, 2) := by decide +kernel
theorem zd_XPacker_bestFilter_55 : decode zb_XPacker_bestFilter 55 = .ok (.isub, 1) := by decide +kernel
theorem zd_XPacker_bestFilter_56 : decode zb_XPacker_bestFilter 56 = .ok (.invokestatic 82, 3) := by decide +kernel
theorem zd_XPacker_bestFilter_59 : decode zb_XPacker_bestFilter 59 = .ok (.iadd, 1) := by decide +kernel
theorem zd_XPacker_bestFilter_60 : decode zb_XPacker_bestFilter 60 = .ok (.istore 6, 2) := by decide +kernel
theorem zd_XPacker_bestFilter_62 : decode zb_XPacker_bestFilter 62 = .ok (.iinc 7 1, 3) := by decide +kernel
theorem zd_XPacker_bestFilter_65 : decode zb_XPacker_bestFilter 65 = .ok (.goto (-44), 3) := by decide +kernel
theorem zd_XPacker_bestFilter_68 : decode zb_XPacker_bestFilter 68 = .ok (.iload 6, 2) := by decide +kernel
theorem zd_XPacker_bestFilter_70 : decode zb_XPacker_bestFilter 70 = .ok (.iload 4, 2) := by decide +kernel
theorem zd_XPacker_bestFilter_72 : decode zb_XPacker_bestFilter 72 = .ok (.if_icmp .ge 10, 3) := by decide +kernel
theorem zd_XPacker_bestFilter_75 : decode zb_XPacker_bestFilter 75 = .ok (.iload 6, 2) := by decide +kernel
theorem zd_XPacker_bestFilter_77 : decode zb_XPacker_bestFilter 77 = .ok (.istore 4, 2) := by decide +kernel
theorem zd_XPacker_bestFilter_79 : decode zb_XPacker_bestFilter 79 = .ok (.iload 5, 2) := by decide +kernel
theorem zd_XPacker_bestFilter_81 : decode zb_XPacker_bestFilter 81 = .ok (.istore_n 3, 1) := by decide +kernel
theorem zd_XPacker_bestFilter_82 : decode zb_XPacker_bestFilter 82 = .ok (.iinc 5 1, 3) := by decide +kernel
theorem zd_XPacker_bestFilter_85 : decode zb_XPacker_bestFilter 85 = .ok (.goto (-76), 3) := by decide +kernel
theorem zd_XPacker_bestFilter_88 : decode zb_XPacker_bestFilter 88 = .ok (.iload_n 3, 1) := by decide +kernel
theorem zd_XPacker_bestFilter_89 : decode zb_XPacker_bestFilter 89 = .ok (.ireturn, 1) := by decide +kernel
theorem zw_920 : (Jvm.Cond.constant "OrreryBox$Packer" (81 : Nat) (1769472 : Int32)) ∈ gw := gw_t 920 (by decide +kernel) rfl
theorem zw_921 : (Jvm.Cond.methodLink "OrreryBox$Packer" (77 : Nat) ({ cls := "OrreryBox$Packer", name := "filtered", desc := "(IIII)I" } : Jvm.MethodName)) ∈ gw := gw_t 921 (by decide +kernel) rfl
theorem zw_923 : (Jvm.Cond.instanceMethod ({ cls := "OrreryBox$Packer", name := "filtered", desc := "(IIII)I" } : Jvm.MethodName)) ∈ gw := gw_t 923 (by decide +kernel) rfl
theorem zv_29 : (Jvm.Cond.selects "OrreryBox$Packer" (⟨"OrreryBox$Packer", "filtered", "(IIII)I"⟩ : MethodName) ⟨"OrreryBox$Packer", "filtered", "(IIII)I"⟩) ∈ gw := gw_s 29 (by decide +kernel) rfl
theorem zs_XPacker_77 : zwV "OrreryBox$Packer" 77 "OrreryBox$Packer" zy_XPacker_filtered zb_XPacker_filtered 9 (some .int) := ⟨zw_921, zw_923, zv_29, zw_3, zc_XPacker_filtered⟩
theorem zw_934 : (Jvm.Cond.methodLink "OrreryBox$Packer" (82 : Nat) ({ cls := "java/lang/Math", name := "min", desc := "(II)I" } : Jvm.MethodName)) ∈ gw := gw_t 934 (by decide +kernel) rfl
theorem zs_XPacker_82 : zwS "OrreryBox$Packer" 82 zy_JMath_min zb_JMath_min 2 (some .int) := ⟨zw_934, zw_121, zw_4, zc_JMath_min⟩
def L_XPacker_bestFilter_21 (sh : zSh) (fuel : Nat) (v0 : Nat) (v1 : Int32) (v2 : Int32) (v3 : Int32) (v4 : Int32) (v5 : Int32) (v6 : Int32) (v7 : Int32) (mm : zMem) : Option (Nat × Int32 × Int32 × Int32 × Int32 × Int32 × Int32 × Int32 × zMem) := match fuel with
  | 0 => none
  | fu + 1 => (if v2 ≤ v7 then some (v0, v1, v2, v3, v4, v5, v6, v7, mm) else (if v4 ≤ v6 then some (v0, v1, v2, v3, v4, v5, v6, v7, mm) else zoS (sh v0) 4 (fun le5 => Option.bind (F_XPacker_filtered sh mm v0 v5 v7 v1 v2) (fun p6 => zoL (v6 + (zx_min (p6.1) (256 - p6.1))) (fun x8 => L_XPacker_bestFilter_21 sh fu v0 v1 v2 v3 v4 v5 x8 (v7 + 1) (p6.2))))))
set_option maxHeartbeats 4000000 in
set_option maxRecDepth 100000 in
theorem lp_XPacker_bestFilter_21 {p : Program} {l : Launch} {e : Env} {s : State} {m : MethodId} {args : Array Value} {below : List Frame} {meth : Method} {c : Code} {D : va_G} {tA : Nat → ClassId} {b n : Nat} {post : Option Value → zV → Nat → Prop} {sh : zSh} (F : zF p s m args meth c zb_XPacker_bestFilter 9 "OrreryBox$Packer" D tA b) : ∀ (fuel : Nat) (v0 : Nat) (v1 : Int32) (v2 : Int32) (v3 : Int32) (v4 : Int32) (v5 : Int32) (v6 : Int32) (v7 : Int32) (mm : zMem) (r : Nat × Int32 × Int32 × Int32 × Int32 × Int32 × Int32 × Int32 × zMem), L_XPacker_bestFilter_21 sh fuel v0 v1 v2 v3 v4 v5 v6 v7 mm = some r → (Z p l e { frames := 4, cells := 0, slots := 0, locals := 96 } s m args below meth c D b 9 (MQ below (zQ D b post) args s 0 0 (fun q => b ≤ q)) (zW tA b sh r.2.2.2.2.2.2.2.2) n 0 0 68 [(0, .ref (b + (r.1))), (1, .int (r.2.1)), (2, .int (r.2.2.1)), (3, .int (r.2.2.2.1)), (4, .int (r.2.2.2.2.1)), (5, .int (r.2.2.2.2.2.1)), (6, .int (r.2.2.2.2.2.2.1)), (7, .int (r.2.2.2.2.2.2.2.1))] []) → Z p l e { frames := 4, cells := 0, slots := 0, locals := 96 } s m args below meth c D b 9 (MQ below (zQ D b post) args s 0 0 (fun q => b ≤ q)) (zW tA b sh mm) n 0 0 21 [(0, .ref (b + v0)), (1, .int v1), (2, .int v2), (3, .int v3), (4, .int v4), (5, .int v5), (6, .int v6), (7, .int v7)] [] := by
  intro fuel
  induction fuel with
  | zero =>
    intro v0 v1 v2 v3 v4 v5 v6 v7 mm r h
    cases h
  | succ fu ih =>
    intro v0 v1 v2 v3 v4 v5 v6 v7 mm r h hx0
    rw [L_XPacker_bestFilter_21] at h
    refine zr_iload F zd_XPacker_bestFilter_21 rfl ?_
    refine zr_iload_n F zd_XPacker_bestFilter_23 rfl ?_
    refine zr_pcn 24 rfl ?_
    refine zr_icmp_ge F 68 zd_XPacker_bestFilter_24 (by decide) (fun hb2 => ?_) (fun hb2 => ?_)
    ·
      rw [if_pos hb2] at h
      obtain rfl := Option.some.inj h
      refine zr_loc (L' := [(0, .ref (b + v0)), (1, .int v1), (2, .int v2), (3, .int v3), (4, .int v4), (5, .int v5), (6, .int v6), (7, .int v7)]) ⟨rfl, rfl, rfl, rfl, rfl, rfl, rfl, rfl, trivial⟩ ?_
      exact hx0 
    ·
      rw [if_neg hb2] at h
      refine zr_iload F zd_XPacker_bestFilter_27 rfl ?_
      refine zr_iload F zd_XPacker_bestFilter_29 rfl ?_
      refine zr_icmp_ge F 68 zd_XPacker_bestFilter_31 (by decide) (fun hb3 => ?_) (fun hb3 => ?_)
      ·
        rw [if_pos hb3] at h
        obtain rfl := Option.some.inj h
        refine zr_loc (L' := [(0, .ref (b + v0)), (1, .int v1), (2, .int v2), (3, .int v3), (4, .int v4), (5, .int v5), (6, .int v6), (7, .int v7)]) ⟨rfl, rfl, rfl, rfl, rfl, rfl, rfl, rfl, trivial⟩ ?_
        exact hx0 
      ·
        rw [if_neg hb3] at h
        refine zr_aload_n F zd_XPacker_bestFilter_34 rfl ?_
        refine zr_iload F zd_XPacker_bestFilter_35 rfl ?_
        refine zr_iload F zd_XPacker_bestFilter_37 rfl ?_
        refine zr_iload_n F zd_XPacker_bestFilter_39 rfl ?_
        refine zr_pcn 40 rfl ?_
        refine zr_iload_n F zd_XPacker_bestFilter_40 rfl ?_
        obtain ⟨le5, hs4, h⟩ := zoS_s h
        obtain ⟨p6, ep6, h⟩ := zoB_s h
        refine zr_callV1 F (k_XPacker_filtered l D tA b sh _ ep6) zd_XPacker_bestFilter_41 (zW_o hs4 (by decide)) rfl zs_XPacker_77 rfl zq_XPacker_filtered rfl rfl ⟨(Nat.le_of_ble_eq_true rfl), (Nat.le_of_ble_eq_true rfl)⟩ (Nat.le_of_ble_eq_true rfl) ⟨(Nat.le_of_ble_eq_true rfl), (Nat.le_of_ble_eq_true rfl)⟩ ?_
        refine zr_istore F zd_XPacker_bestFilter_44 (by decide) ?_
        refine zr_iload F zd_XPacker_bestFilter_46 rfl ?_
        refine zr_iload F zd_XPacker_bestFilter_48 rfl ?_
        refine zr_sipushv (v := 256) F zd_XPacker_bestFilter_50 (by decide) ?_
        refine zr_iload F zd_XPacker_bestFilter_53 rfl ?_
        refine zr_isub F zd_XPacker_bestFilter_55 ?_
        refine zr_pcn 56 rfl ?_
        refine zr_callS1 F (c_JMath_min l D tA b _ _ (p6.1) (256 - p6.1)) zd_XPacker_bestFilter_56 zs_XPacker_82 zq_JMath_min rfl rfl ⟨(Nat.le_of_ble_eq_true rfl), (Nat.le_of_ble_eq_true rfl)⟩ (Nat.le_of_ble_eq_true rfl) ⟨(Nat.le_of_ble_eq_true rfl), (Nat.le_of_ble_eq_true rfl)⟩ ?_
        refine zr_iadd F zd_XPacker_bestFilter_59 ?_
        obtain ⟨x8, ex8, h⟩ := zoL_s h
        rw [← ex8]
        refine zr_istore F zd_XPacker_bestFilter_60 (by decide) ?_
        refine zr_iinc (v := (v7 + 1)) F zd_XPacker_bestFilter_62 rfl rfl (by decide) ?_
        refine zr_goto F 21 zd_XPacker_bestFilter_65 (by decide) ?_
        refine zr_loc (L' := [(0, .ref (b + v0)), (1, .int v1), (2, .int v2), (3, .int v3), (4, .int v4), (5, .int v5), (6, .int x8), (7, .int (v7 + 1))]) ⟨rfl, rfl, rfl, rfl, rfl, rfl, rfl, rfl, trivial⟩ ?_
        exact ih _ _ _ _ _ _ _ _ _ _ h hx0
def L_XPacker_bestFilter_9 (sh : zSh) (fuel : Nat) (v0 : Nat) (v1 : Int32) (v2 : Int32) (v3 : Int32) (v4 : Int32) (v5 : Int32) (mm : zMem) : Option (Nat × Int32 × Int32 × Int32 × Int32 × Int32 × zMem) := match fuel with
  | 0 => none
  | fu + 1 => (if 5 ≤ v5 then some (v0, v1, v2, v3, v4, v5, mm) else Option.bind (L_XPacker_bestFilter_21 sh zfuel v0 v1 v2 v3 v4 v5 0 0 mm) (fun q9 => (if q9.2.2.2.2.1 ≤ q9.2.2.2.2.2.2.1 then L_XPacker_bestFilter_9 sh fu (q9.1) (q9.2.1) (q9.2.2.1) (q9.2.2.2.1) (q9.2.2.2.2.1) (q9.2.2.2.2.2.1 + 1) (q9.2.2.2.2.2.2.2.2) else L_XPacker_bestFilter_9 sh fu (q9.1) (q9.2.1) (q9.2.2.1) (q9.2.2.2.2.2.1) (q9.2.2.2.2.2.2.1) (q9.2.2.2.2.2.1 + 1) (q9.2.2.2.2.2.2.2.2))))
set_option maxHeartbeats 4000000 in
set_option maxRecDepth 100000 in
theorem lp_XPacker_bestFilter_9 {p : Program} {l : Launch} {e : Env} {s : State} {m : MethodId} {args : Array Value} {below : List Frame} {meth : Method} {c : Code} {D : va_G} {tA : Nat → ClassId} {b n : Nat} {post : Option Value → zV → Nat → Prop} {sh : zSh} (F : zF p s m args meth c zb_XPacker_bestFilter 9 "OrreryBox$Packer" D tA b) : ∀ (fuel : Nat) (v0 : Nat) (v1 : Int32) (v2 : Int32) (v3 : Int32) (v4 : Int32) (v5 : Int32) (mm : zMem) (r : Nat × Int32 × Int32 × Int32 × Int32 × Int32 × zMem), L_XPacker_bestFilter_9 sh fuel v0 v1 v2 v3 v4 v5 mm = some r → (Z p l e { frames := 4, cells := 0, slots := 0, locals := 96 } s m args below meth c D b 9 (MQ below (zQ D b post) args s 0 0 (fun q => b ≤ q)) (zW tA b sh r.2.2.2.2.2.2) n 0 0 88 [(0, .ref (b + (r.1))), (1, .int (r.2.1)), (2, .int (r.2.2.1)), (3, .int (r.2.2.2.1)), (4, .int (r.2.2.2.2.1)), (5, .int (r.2.2.2.2.2.1))] []) → Z p l e { frames := 4, cells := 0, slots := 0, locals := 96 } s m args below meth c D b 9 (MQ below (zQ D b post) args s 0 0 (fun q => b ≤ q)) (zW tA b sh mm) n 0 0 9 [(0, .ref (b + v0)), (1, .int v1), (2, .int v2), (3, .int v3), (4, .int v4), (5, .int v5)] [] := by
  intro fuel
  induction fuel with
  | zero =>
    intro v0 v1 v2 v3 v4 v5 mm r h
    cases h
  | succ fu ih =>
    intro v0 v1 v2 v3 v4 v5 mm r h hx0
    rw [L_XPacker_bestFilter_9] at h
    refine zr_iload F zd_XPacker_bestFilter_9 rfl ?_
    refine zr_pcn 11 rfl ?_
    refine zr_iconstv (v := 5) F zd_XPacker_bestFilter_11 (by decide) ?_
    refine zr_icmp_ge F 88 zd_XPacker_bestFilter_12 (by decide) (fun hb1 => ?_) (fun hb1 => ?_)
    ·
      rw [if_pos hb1] at h
      obtain rfl := Option.some.inj h
      refine zr_loc (L' := [(0, .ref (b + v0)), (1, .int v1), (2, .int v2), (3, .int v3), (4, .int v4), (5, .int v5)]) ⟨rfl, rfl, rfl, rfl, rfl, rfl, trivial⟩ ?_
      exact hx0 
    ·
      rw [if_neg hb1] at h
      refine zr_iconstv (v := 0) F zd_XPacker_bestFilter_15 (by decide) ?_
      refine zr_istore F zd_XPacker_bestFilter_16 (by decide) ?_
      refine zr_iconstv (v := 0) F zd_XPacker_bestFilter_18 (by decide) ?_
      refine zr_istore F zd_XPacker_bestFilter_19 (by decide) ?_
      obtain ⟨q9, eq9, h⟩ := zoB_s h
      refine zr_loc (L' := [(0, .ref (b + v0)), (1, .int v1), (2, .int v2), (3, .int v3), (4, .int v4), (5, .int v5), (6, .int 0), (7, .int 0)]) ⟨rfl, rfl, rfl, rfl, rfl, rfl, rfl, rfl, trivial⟩ ?_
      refine lp_XPacker_bestFilter_21 F _ _ _ _ _ _ _ _ _ _ _ eq9 ?_
      ·
        refine zr_iload F zd_XPacker_bestFilter_68 rfl ?_
        refine zr_iload F zd_XPacker_bestFilter_70 rfl ?_
        refine zr_icmp_ge F 82 zd_XPacker_bestFilter_72 (by decide) (fun hb10 => ?_) (fun hb10 => ?_)
        ·
          rw [if_pos hb10] at h
          refine zr_pcn 82 rfl ?_
          refine zr_iinc (v := (q9.2.2.2.2.2.1 + 1)) F zd_XPacker_bestFilter_82 rfl rfl (by decide) ?_
          refine zr_goto F 9 zd_XPacker_bestFilter_85 (by decide) ?_
          refine zr_loc (L' := [(0, .ref (b + (q9.1))), (1, .int (q9.2.1)), (2, .int (q9.2.2.1)), (3, .int (q9.2.2.2.1)), (4, .int (q9.2.2.2.2.1)), (5, .int (q9.2.2.2.2.2.1 + 1))]) ⟨rfl, rfl, rfl, rfl, rfl, rfl, trivial⟩ ?_
          exact ih _ _ _ _ _ _ _ _ h hx0
        ·
          rw [if_neg hb10] at h
          refine zr_iload F zd_XPacker_bestFilter_75 rfl ?_
          refine zr_istore F zd_XPacker_bestFilter_77 (by decide) ?_
          refine zr_iload F zd_XPacker_bestFilter_79 rfl ?_
          refine zr_istore_n F zd_XPacker_bestFilter_81 (by decide) ?_
          refine zr_iinc (v := (q9.2.2.2.2.2.1 + 1)) F zd_XPacker_bestFilter_82 rfl rfl (by decide) ?_
          refine zr_goto F 9 zd_XPacker_bestFilter_85 (by decide) ?_
          refine zr_loc (L' := [(0, .ref (b + (q9.1))), (1, .int (q9.2.1)), (2, .int (q9.2.2.1)), (3, .int (q9.2.2.2.2.2.1)), (4, .int (q9.2.2.2.2.2.2.1)), (5, .int (q9.2.2.2.2.2.1 + 1))]) ⟨rfl, rfl, rfl, rfl, rfl, rfl, trivial⟩ ?_
          exact ih _ _ _ _ _ _ _ _ h hx0
def F_XPacker_bestFilter (sh : zSh) (mm : zMem) (o : Nat) (x0_ : Int32) (x1_ : Int32) : Option (Int32 × zMem) := Option.bind (L_XPacker_bestFilter_9 sh zfuel o x0_ x1_ 0 1769472 0 mm) (fun q11 => some (q11.2.2.2.1, q11.2.2.2.2.2.2))
set_option maxHeartbeats 4000000 in
set_option maxRecDepth 100000 in
theorem k_XPacker_bestFilter (l : Launch) (D : va_G) (tA : Nat → ClassId) (b : Nat) (sh : zSh) (n : Nat) {mm : zMem} {o : Nat} {x0_ : Int32} {x1_ : Int32} {r : (Int32 × zMem)} (h : F_XPacker_bestFilter sh mm o x0_ x1_ = some r) : zM l D tA b zy_XPacker_bestFilter zb_XPacker_bestFilter 9 (some .int) 4 96 0 0 [.ref (b + o), .int x0_, .int x1_] (zW tA b sh mm) n (zE (some (.int (r.1))) (zW tA b sh r.2) n) := by
  unfold F_XPacker_bestFilter at h
  refine zM_of (own := "OrreryBox$Packer") (plainFor_of_name (by decide)) rfl (Nat.le_of_ble_eq_true rfl) (fun p e s m below meth c F hr hin hH => ?_)
  refine zr_iconstv (v := 0) F zd_XPacker_bestFilter_0 (by decide) ?_
  refine zr_istore_n F zd_XPacker_bestFilter_1 (by decide) ?_
  refine zr_ldc F zd_XPacker_bestFilter_2 zw_920 ?_
  refine zr_istore F zd_XPacker_bestFilter_4 (by decide) ?_
  refine zr_iconstv (v := 0) F zd_XPacker_bestFilter_6 (by decide) ?_
  refine zr_istore F zd_XPacker_bestFilter_7 (by decide) ?_
  obtain ⟨q11, eq11, h⟩ := zoB_s h
  refine zr_loc (L' := [(0, .ref (b + o)), (1, .int x0_), (2, .int x1_), (3, .int 0), (4, .int 1769472), (5, .int 0)]) ⟨rfl, rfl, rfl, rfl, rfl, rfl, trivial⟩ ?_
  refine lp_XPacker_bestFilter_9 F _ _ _ _ _ _ _ _ _ eq11 ?_
  ·
    refine zr_pcn 88 rfl ?_
    refine zr_iload_n F zd_XPacker_bestFilter_88 rfl ?_
    obtain rfl := Option.some.inj h
    exact zr_iret F hr zd_XPacker_bestFilter_89 (Nat.le_of_ble_eq_true rfl) (Nat.le_of_ble_eq_true rfl) ⟨rfl, rfl, rfl⟩
abbrev zb_XPacker_closeChunk : ByteArray := prog_5_method_12_code
def zy_XPacker_closeChunk : MethodName := ⟨"OrreryBox$Packer", "closeChunk", "(I)V"⟩
theorem zc_XPacker_closeChunk : Cond.code zy_XPacker_closeChunk zb_XPacker_closeChunk 5 none ∈ gw := gw_t 1002 (by decide +kernel) rfl
theorem zq_XPacker_closeChunk : zy_XPacker_closeChunk.cls ≠ "java/lang/invoke/MethodHandle" ∧ zy_XPacker_closeChunk.cls ≠ "java/lang/invoke/VarHandle" ∧ (parseMethodDescriptor zy_XPacker_closeChunk.desc).map (fun d => d.parameters.length) = some 1 := by decide +kernel
theorem zd_XPacker_closeChunk_0 : decode zb_XPacker_closeChunk 0 = .ok (.aload_n 0, 1) := by decide +kernel
theorem zd_XPacker_closeChunk_1 : decode zb_XPacker_closeChunk 1 = .ok (.getfield 36, 3) := by decide +kernel
theorem zd_XPacker_closeChunk_4 : decode zb_XPacker_closeChunk 4 = .ok (.istore_n 2, 1) := by decide +kernel
theorem zd_XPacker_closeChunk_5 : decode zb_XPacker_closeChunk 5 = .ok (.iconst (-1), 1) := by decide +kernel
theorem zd_XPacker_closeChunk_6 : decode zb_XPacker_closeChunk 6 = .ok (.istore_n 3, 1) := by decide +kernel
theorem zd_XPacker_closeChunk_7 : decode zb_XPacker_closeChunk 7 = .ok (.iload_n 1, 1) := by decide +kernel
theorem zd_XPacker_closeChunk_8 : decode zb_XPacker_closeChunk 8 = .ok (.iconst 4, 1) := by decide +kernel
theorem zd_XPacker_closeChunk_9 : decode zb_XPacker_closeChunk 9 = .ok (.iadd, 1) := by decide +kernel
theorem zd_XPacker_closeChunk_10 : decode zb_XPacker_closeChunk 10 = .ok (.istore 4, 2) := by decide +kernel
theorem zd_XPacker_closeChunk_12 : decode zb_XPacker_closeChunk 12 = .ok (.iload 4, 2) := by decide +kernel
theorem zd_XPacker_closeChunk_14 : decode zb_XPacker_closeChunk 14 = .ok (.iload_n 2, 1) := by decide +kernel
theorem zd_XPacker_closeChunk_15 : decode zb_XPacker_closeChunk 15 = .ok (.if_icmp .ge 25, 3) := by decide +kernel
theorem zd_XPacker_closeChunk_18 : decode zb_XPacker_closeChunk 18 = .ok (.iload_n 3, 1) := by decide +kernel
theorem zd_XPacker_closeChunk_19 : decode zb_XPacker_closeChunk 19 = .ok (.aload_n 0, 1) := by decide +kernel
theorem zd_XPacker_closeChunk_20 : decode zb_XPacker_closeChunk 20 = .ok (.getfield 11, 3) := by decide +kernel
theorem zd_XPacker_closeChunk_23 : decode zb_XPacker_closeChunk 23 = .ok (.iload 4, 2) := by decide +kernel
theorem zd_XPacker_closeChunk_25 : decode zb_XPacker_closeChunk 25 = .ok (.baload, 1) := by decide +kernel
theorem zd_XPacker_closeChunk_26 : decode zb_XPacker_closeChunk 26 = .ok (.sipush 255, 3) := by decide +kernel
theorem zd_XPacker_closeChunk_29 : decode zb_XPacker_closeChunk 29 = .ok (.iand, 1) := by decide +kernel
theorem zd_XPacker_closeChunk_30 : decode zb_XPacker_closeChunk 30 = .ok (.invokestatic 107, 3) := by decide +kernel
theorem zd_XPacker_closeChunk_33 : decode zb_XPacker_closeChunk 33 = .ok (.istore_n 3, 1) := by decide +kernel
theorem zd_XPacker_closeChunk_34 : decode zb_XPacker_closeChunk 34 = .ok (.iinc 4 1, 3) := by decide +kernel
theorem zd_XPacker_closeChunk_37 : decode zb_XPacker_closeChunk 37 = .ok (.goto (-25), 3) := by decide +kernel
theorem zd_XPacker_closeChunk_40 : decode zb_XPacker_closeChunk 40 = .ok (.aload_n 0, 1) := by decide +kernel
theorem zd_XPacker_closeChunk_41 : decode zb_XPacker_closeChunk 41 = .ok (.iload_n 1, 1) := by decide +kernel
theorem zd_XPacker_closeChunk_42 : decode zb_XPacker_closeChunk 42 = .ok (.putfield 36, 3) := by decide +kernel
theorem zd_XPacker_closeChunk_45 : decode zb_XPacker_closeChunk 45 = .ok (.aload_n 0, 1) := by decide +kernel
theorem zd_XPacker_closeChunk_46 : decode zb_XPacker_closeChunk 46 = .ok (.iload_n 2, 1) := by decide +kernel
theorem zd_XPacker_closeChunk_47 : decode zb_XPacker_closeChunk 47 = .ok (.iload_n 1, 1) := by decide +kernel
theorem zd_XPacker_closeChunk_48 : decode zb_XPacker_closeChunk 48 = .ok (.isub, 1) := by decide +kernel
theorem zd_XPacker_closeChunk_49 : decode zb_XPacker_closeChunk 49 = .ok (.bipush 8, 2) := by decide +kernel
theorem zd_XPacker_closeChunk_51 : decode zb_XPacker_closeChunk 51 = .ok (.isub, 1) := by decide +kernel
theorem zd_XPacker_closeChunk_52 : decode zb_XPacker_closeChunk 52 = .ok (.invokevirtual 41, 3) := by decide +kernel
theorem zd_XPacker_closeChunk_55 : decode zb_XPacker_closeChunk 55 = .ok (.aload_n 0, 1) := by decide +kernel
theorem zd_XPacker_closeChunk_56 : decode zb_XPacker_closeChunk 56 = .ok (.iload_n 2, 1) := by decide +kernel
theorem zd_XPacker_closeChunk_57 : decode zb_XPacker_closeChunk 57 = .ok (.putfield 36, 3) := by decide +kernel
theorem zd_XPacker_closeChunk_60 : decode zb_XPacker_closeChunk 60 = .ok (.aload_n 0, 1) := by decide +kernel
theorem zd_XPacker_closeChunk_61 : decode zb_XPacker_closeChunk 61 = .ok (.iload_n 3, 1) := by decide +kernel
theorem zd_XPacker_closeChunk_62 : decode zb_XPacker_closeChunk 62 = .ok (.iconst (-1), 1) := by decide +kernel
theorem zd_XPacker_closeChunk_63 : decode zb_XPacker_closeChunk 63 = .ok (.ixor, 1) := by decide +kernel
theorem zd_XPacker_closeChunk_64 : decode zb_XPacker_closeChunk 64 = .ok (.invokevirtual 41, 3) := by decide +kernel
theorem zd_XPacker_closeChunk_67 : decode zb_XPacker_closeChunk 67 = .ok (.return_, 1) := by decide +kernel
theorem zw_1003 : (Jvm.Cond.methodLink "OrreryBox$Packer" (107 : Nat) ({ cls := "OrreryBox$Packer", name := "crcWith", desc := "(II)I" } : Jvm.MethodName)) ∈ gw := gw_t 1003 (by decide +kernel) rfl
theorem zw_1004 : (Jvm.Cond.static ({ cls := "OrreryBox$Packer", name := "crcWith", desc := "(II)I" } : Jvm.MethodName)) ∈ gw := gw_t 1004 (by decide +kernel) rfl
theorem zs_XPacker_107 : zwS "OrreryBox$Packer" 107 zy_XPacker_crcWith zb_XPacker_crcWith 4 (some .int) := ⟨zw_1003, zw_1004, zw_3, zc_XPacker_crcWith⟩
def L_XPacker_closeChunk_12 (sh : zSh) (fuel : Nat) (v0 : Nat) (v1 : Int32) (v2 : Int32) (v3 : Int32) (v4 : Int32) (mm : zMem) : Option (Nat × Int32 × Int32 × Int32 × Int32 × zMem) := match fuel with
  | 0 => none
  | fu + 1 => (if v2 ≤ v4 then some (v0, v1, v2, v3, v4, mm) else zoS (sh v0) 4 (fun le7 => Option.bind (mm.2.2 v0 0) (fun a8 => zoS (sh a8) 101 (fun le10 => if (v4 : Int32) < 0 ∨ le10 ≤ (v4 : Int32).toNatClampNeg then none else zoL ((mm.1 a8 (v4 : Int32).toNatClampNeg) &&& 255) (fun x12 => Option.bind (F_XPacker_crcWith sh mm v3 x12) (fun p13 => L_XPacker_closeChunk_12 sh fu v0 v1 v2 (p13.1) (v4 + 1) (p13.2)))))))
set_option maxHeartbeats 4000000 in
set_option maxRecDepth 100000 in
theorem lp_XPacker_closeChunk_12 {p : Program} {l : Launch} {e : Env} {s : State} {m : MethodId} {args : Array Value} {below : List Frame} {meth : Method} {c : Code} {D : va_G} {tA : Nat → ClassId} {b n : Nat} {post : Option Value → zV → Nat → Prop} {sh : zSh} (F : zF p s m args meth c zb_XPacker_closeChunk 5 "OrreryBox$Packer" D tA b) : ∀ (fuel : Nat) (v0 : Nat) (v1 : Int32) (v2 : Int32) (v3 : Int32) (v4 : Int32) (mm : zMem) (r : Nat × Int32 × Int32 × Int32 × Int32 × zMem), L_XPacker_closeChunk_12 sh fuel v0 v1 v2 v3 v4 mm = some r → (Z p l e { frames := 2, cells := 0, slots := 0, locals := 42 } s m args below meth c D b 5 (MQ below (zQ D b post) args s 0 0 (fun q => b ≤ q)) (zW tA b sh r.2.2.2.2.2) n 0 0 40 [(0, .ref (b + (r.1))), (1, .int (r.2.1)), (2, .int (r.2.2.1)), (3, .int (r.2.2.2.1)), (4, .int (r.2.2.2.2.1))] []) → Z p l e { frames := 2, cells := 0, slots := 0, locals := 42 } s m args below meth c D b 5 (MQ below (zQ D b post) args s 0 0 (fun q => b ≤ q)) (zW tA b sh mm) n 0 0 12 [(0, .ref (b + v0)), (1, .int v1), (2, .int v2), (3, .int v3), (4, .int v4)] [] := by
  intro fuel
  induction fuel with
  | zero =>
    intro v0 v1 v2 v3 v4 mm r h
    cases h
  | succ fu ih =>
    intro v0 v1 v2 v3 v4 mm r h hx0
    rw [L_XPacker_closeChunk_12] at h
    refine zr_iload F zd_XPacker_closeChunk_12 rfl ?_
    refine zr_iload_n F zd_XPacker_closeChunk_14 rfl ?_
    refine zr_icmp_ge F 40 zd_XPacker_closeChunk_15 (by decide) (fun hb5 => ?_) (fun hb5 => ?_)
    ·
      rw [if_pos hb5] at h
      obtain rfl := Option.some.inj h
      refine zr_loc (L' := [(0, .ref (b + v0)), (1, .int v1), (2, .int v2), (3, .int v3), (4, .int v4)]) ⟨rfl, rfl, rfl, rfl, rfl, trivial⟩ ?_
      exact hx0 
    ·
      rw [if_neg hb5] at h
      refine zr_iload_n F zd_XPacker_closeChunk_18 rfl ?_
      refine zr_aload_n F zd_XPacker_closeChunk_19 rfl ?_
      obtain ⟨le7, hs6, h⟩ := zoS_s h
      obtain ⟨a8, ea8, h⟩ := zoB_s h
      refine zr_get F 4 0 zd_XPacker_closeChunk_20 (zW_o hs6 (by decide)) rfl (by decide) zw_81 rfl (by rfl) ?_
      refine zr_tor ea8 ?_
      refine zr_pcn 23 rfl ?_
      refine zr_iload F zd_XPacker_closeChunk_23 rfl ?_
      obtain ⟨le10, hs9, h⟩ := zoS_s h
      obtain ⟨hi11, h⟩ := zoI_s h
      refine zr_bald F zd_XPacker_closeChunk_25 (zW_a1 hs9) hi11 ?_
      refine zr_sipushv (v := 255) F zd_XPacker_closeChunk_26 (by decide) ?_
      refine zr_iand F zd_XPacker_closeChunk_29 ?_
      obtain ⟨x12, ex12, h⟩ := zoL_s h
      rw [← ex12]
      obtain ⟨p13, ep13, h⟩ := zoB_s h
      refine zr_callS1 F (k_XPacker_crcWith l D tA b sh _ ep13) zd_XPacker_closeChunk_30 zs_XPacker_107 zq_XPacker_crcWith rfl rfl ⟨(Nat.le_of_ble_eq_true rfl), (Nat.le_of_ble_eq_true rfl)⟩ (Nat.le_of_ble_eq_true rfl) ⟨(Nat.le_of_ble_eq_true rfl), (Nat.le_of_ble_eq_true rfl)⟩ ?_
      refine zr_istore_n F zd_XPacker_closeChunk_33 (by decide) ?_
      refine zr_iinc (v := (v4 + 1)) F zd_XPacker_closeChunk_34 rfl rfl (by decide) ?_
      refine zr_goto F 12 zd_XPacker_closeChunk_37 (by decide) ?_
      refine zr_loc (L' := [(0, .ref (b + v0)), (1, .int v1), (2, .int v2), (3, .int (p13.1)), (4, .int (v4 + 1))]) ⟨rfl, rfl, rfl, rfl, rfl, trivial⟩ ?_
      exact ih _ _ _ _ _ _ _ h hx0
theorem zw_936 : (Jvm.Cond.methodLink "OrreryBox$Packer" (41 : Nat) ({ cls := "OrreryBox$Packer", name := "putNumber", desc := "(I)V" } : Jvm.MethodName)) ∈ gw := gw_t 936 (by decide +kernel) rfl
theorem zw_938 : (Jvm.Cond.instanceMethod ({ cls := "OrreryBox$Packer", name := "putNumber", desc := "(I)V" } : Jvm.MethodName)) ∈ gw := gw_t 938 (by decide +kernel) rfl
theorem zv_30 : (Jvm.Cond.selects "OrreryBox$Packer" (⟨"OrreryBox$Packer", "putNumber", "(I)V"⟩ : MethodName) ⟨"OrreryBox$Packer", "putNumber", "(I)V"⟩) ∈ gw := gw_s 30 (by decide +kernel) rfl
theorem zs_XPacker_41 : zwV "OrreryBox$Packer" 41 "OrreryBox$Packer" zy_XPacker_putNumber zb_XPacker_putNumber 2 none := ⟨zw_936, zw_938, zv_30, zw_3, zc_XPacker_putNumber⟩
def F_XPacker_closeChunk (sh : zSh) (mm : zMem) (o : Nat) (x0_ : Int32) : Option zMem := zoS (sh o) 4 (fun le2 => zoL (mm.1 o 1) (fun x3 => zoL (x0_ + 4) (fun x4 => Option.bind (L_XPacker_closeChunk_12 sh zfuel o x0_ x3 (-1) x4 mm) (fun q14 => zoS (sh (q14.1)) 4 (fun le16 => zoL (mI (q14.2.2.2.2.2) (q14.1) 1 (q14.2.1)) (fun mm17 => zoS (sh (q14.1)) 4 (fun le19 => Option.bind (F_XPacker_putNumber sh mm17 (q14.1) ((q14.2.2.1 - q14.2.1) - 8)) (fun p20 => zoS (sh (q14.1)) 4 (fun le22 => zoL (mI p20 (q14.1) 1 (q14.2.2.1)) (fun mm23 => zoS (sh (q14.1)) 4 (fun le25 => Option.bind (F_XPacker_putNumber sh mm23 (q14.1) (q14.2.2.2.1 ^^^ (-1))) (fun p26 => some p26))))))))))))
set_option maxHeartbeats 4000000 in
set_option maxRecDepth 100000 in
theorem k_XPacker_closeChunk (l : Launch) (D : va_G) (tA : Nat → ClassId) (b : Nat) (sh : zSh) (n : Nat) {mm : zMem} {o : Nat} {x0_ : Int32} {r : zMem} (h : F_XPacker_closeChunk sh mm o x0_ = some r) : zM l D tA b zy_XPacker_closeChunk zb_XPacker_closeChunk 5 none 2 42 0 0 [.ref (b + o), .int x0_] (zW tA b sh mm) n (zE none (zW tA b sh r) n) := by
  unfold F_XPacker_closeChunk at h
  refine zM_of (own := "OrreryBox$Packer") (plainFor_of_name (by decide)) rfl (Nat.le_of_ble_eq_true rfl) (fun p e s m below meth c F hr hin hH => ?_)
  refine zr_aload_n F zd_XPacker_closeChunk_0 rfl ?_
  obtain ⟨le2, hs1, h⟩ := zoS_s h
  refine zr_get F 4 1 zd_XPacker_closeChunk_1 (zW_o hs1 (by decide)) rfl (by decide) zw_83 rfl (by rfl) ?_
  obtain ⟨x3, ex3, h⟩ := zoL_s h
  rw [← ex3]
  refine zr_istore_n F zd_XPacker_closeChunk_4 (by decide) ?_
  refine zr_iconstv (v := (-1)) F zd_XPacker_closeChunk_5 (by decide) ?_
  refine zr_istore_n F zd_XPacker_closeChunk_6 (by decide) ?_
  refine zr_iload_n F zd_XPacker_closeChunk_7 rfl ?_
  refine zr_iconstv (v := 4) F zd_XPacker_closeChunk_8 (by decide) ?_
  refine zr_pcn 9 rfl ?_
  refine zr_iadd F zd_XPacker_closeChunk_9 ?_
  obtain ⟨x4, ex4, h⟩ := zoL_s h
  rw [← ex4]
  refine zr_istore F zd_XPacker_closeChunk_10 (by decide) ?_
  obtain ⟨q14, eq14, h⟩ := zoB_s h
  refine zr_loc (L' := [(0, .ref (b + o)), (1, .int x0_), (2, .int x3), (3, .int (-1)), (4, .int x4)]) ⟨rfl, rfl, rfl, rfl, rfl, trivial⟩ ?_
  refine lp_XPacker_closeChunk_12 F _ _ _ _ _ _ _ _ eq14 ?_
  ·
    refine zr_pcn 40 rfl ?_
    refine zr_aload_n F zd_XPacker_closeChunk_40 rfl ?_
    refine zr_iload_n F zd_XPacker_closeChunk_41 rfl ?_
    obtain ⟨le16, hs15, h⟩ := zoS_s h
    refine zr_put F 4 1 zd_XPacker_closeChunk_42 (zW_o hs15 (by decide)) rfl (by decide) zw_83 rfl rfl rfl rfl (by exact (Nat.le_of_ble_eq_true rfl)) ?_
    obtain ⟨mm17, emm17, h⟩ := zoL_s h
    refine zr_norm (zW tA b sh mm17) _ (by rw [emm17]; exact zW_pI (v := (q14.2.1)) hs15 (by decide) (zf_I_4_1 b _ _ _)) rfl ?_
    refine zr_aload_n F zd_XPacker_closeChunk_45 rfl ?_
    refine zr_iload_n F zd_XPacker_closeChunk_46 rfl ?_
    refine zr_iload_n F zd_XPacker_closeChunk_47 rfl ?_
    refine zr_isub F zd_XPacker_closeChunk_48 ?_
    refine zr_bipushv (v := 8) F zd_XPacker_closeChunk_49 (by decide) ?_
    refine zr_pcn 51 rfl ?_
    refine zr_isub F zd_XPacker_closeChunk_51 ?_
    obtain ⟨le19, hs18, h⟩ := zoS_s h
    obtain ⟨p20, ep20, h⟩ := zoB_s h
    refine zr_callV0 F (k_XPacker_putNumber l D tA b sh _ ep20) zd_XPacker_closeChunk_52 (zW_o hs18 (by decide)) rfl zs_XPacker_41 rfl zq_XPacker_putNumber rfl rfl ⟨(Nat.le_of_ble_eq_true rfl), (Nat.le_of_ble_eq_true rfl)⟩ (Nat.le_of_ble_eq_true rfl) ⟨(Nat.le_of_ble_eq_true rfl), (Nat.le_of_ble_eq_true rfl)⟩ ?_
    refine zr_aload_n F zd_XPacker_closeChunk_55 rfl ?_
    refine zr_iload_n F zd_XPacker_closeChunk_56 rfl ?_
    obtain ⟨le22, hs21, h⟩ := zoS_s h
    refine zr_put F 4 1 zd_XPacker_closeChunk_57 (zW_o hs21 (by decide)) rfl (by decide) zw_83 rfl rfl rfl rfl (by exact (Nat.le_of_ble_eq_true rfl)) ?_
    obtain ⟨mm23, emm23, h⟩ := zoL_s h
    refine zr_norm (zW tA b sh mm23) _ (by rw [emm23]; exact zW_pI (v := (q14.2.2.1)) hs21 (by decide) (zf_I_4_1 b _ _ _)) rfl ?_
    refine zr_aload_n F zd_XPacker_closeChunk_60 rfl ?_
    refine zr_iload_n F zd_XPacker_closeChunk_61 rfl ?_
    refine zr_iconstv (v := (-1)) F zd_XPacker_closeChunk_62 (by decide) ?_
    refine zr_pcn 63 rfl ?_
    refine zr_ixor F zd_XPacker_closeChunk_63 ?_
    obtain ⟨le25, hs24, h⟩ := zoS_s h
    obtain ⟨p26, ep26, h⟩ := zoB_s h
    refine zr_callV0 F (k_XPacker_putNumber l D tA b sh _ ep26) zd_XPacker_closeChunk_64 (zW_o hs24 (by decide)) rfl zs_XPacker_41 rfl zq_XPacker_putNumber rfl rfl ⟨(Nat.le_of_ble_eq_true rfl), (Nat.le_of_ble_eq_true rfl)⟩ (Nat.le_of_ble_eq_true rfl) ⟨(Nat.le_of_ble_eq_true rfl), (Nat.le_of_ble_eq_true rfl)⟩ ?_
    obtain rfl := Option.some.inj h
    exact zr_vret F hr zd_XPacker_closeChunk_67 (Nat.le_of_ble_eq_true rfl) (Nat.le_of_ble_eq_true rfl) ⟨rfl, rfl, rfl⟩
abbrev zb_XPacker_findRun : ByteArray := prog_5_method_16_code
def zy_XPacker_findRun : MethodName := ⟨"OrreryBox$Packer", "findRun", "(I)V"⟩
theorem zc_XPacker_findRun : Cond.code zy_XPacker_findRun zb_XPacker_findRun 6 none ∈ gw := gw_t 1023 (by decide +kernel) rfl
theorem zq_XPacker_findRun : zy_XPacker_findRun.cls ≠ "java/lang/invoke/MethodHandle" ∧ zy_XPacker_findRun.cls ≠ "java/lang/invoke/VarHandle" ∧ (parseMethodDescriptor zy_XPacker_findRun.desc).map (fun d => d.parameters.length) = some 1 := by decide +kernel
theorem zd_XPacker_findRun_0 : decode zb_XPacker_findRun 0 = .ok (.sipush 258, 3) := by decide +kernel
theorem zd_XPacker_findRun_3 : decode zb_XPacker_findRun 3 = .ok (.aload_n 0, 1) := by decide +kernel
theorem zd_XPacker_findRun_4 : decode zb_XPacker_findRun 4 = .ok (.getfield 70, 3) := by decide +kernel
theorem zd_XPacker_findRun_7 : decode zb_XPacker_findRun 7 = .ok (.iload_n 1, 1) := by decide +kernel
theorem zd_XPacker_findRun_8 : decode zb_XPacker_findRun 8 = .ok (.isub, 1) := by decide +kernel
theorem zd_XPacker_findRun_9 : decode zb_XPacker_findRun 9 = .ok (.invokestatic 82, 3) := by decide +kernel
theorem zd_XPacker_findRun_12 : decode zb_XPacker_findRun 12 = .ok (.istore_n 2, 1) := by decide +kernel
theorem zd_XPacker_findRun_13 : decode zb_XPacker_findRun 13 = .ok (.aload_n 0, 1) := by decide +kernel
theorem zd_XPacker_findRun_14 : decode zb_XPacker_findRun 14 = .ok (.iconst 0, 1) := by decide +kernel
theorem zd_XPacker_findRun_15 : decode zb_XPacker_findRun 15 = .ok (.putfield 124, 3) := by decide +kernel
theorem zd_XPacker_findRun_18 : decode zb_XPacker_findRun 18 = .ok (.iload_n 2, 1) := by decide +kernel
theorem zd_XPacker_findRun_19 : decode zb_XPacker_findRun 19 = .ok (.iconst 3, 1) := by decide +kernel
theorem zd_XPacker_findRun_20 : decode zb_XPacker_findRun 20 = .ok (.if_icmp .ge 4, 3) := by decide +kernel
theorem zd_XPacker_findRun_23 : decode zb_XPacker_findRun 23 = .ok (.return_, 1) := by decide +kernel
theorem zd_XPacker_findRun_24 : decode zb_XPacker_findRun 24 = .ok (.aload_n 0, 1) := by decide +kernel
theorem zd_XPacker_findRun_25 : decode zb_XPacker_findRun 25 = .ok (.getfield 22, 3) := by decide +kernel
theorem zd_XPacker_findRun_28 : decode zb_XPacker_findRun 28 = .ok (.aload_n 0, 1) := by decide +kernel
theorem zd_XPacker_findRun_29 : decode zb_XPacker_findRun 29 = .ok (.iload_n 1, 1) := by decide +kernel
theorem zd_XPacker_findRun_30 : decode zb_XPacker_findRun 30 = .ok (.invokevirtual 142, 3) := by decide +kernel
theorem zd_XPacker_findRun_33 : decode zb_XPacker_findRun 33 = .ok (.iaload, 1) := by decide +kernel
theorem zd_XPacker_findRun_34 : decode zb_XPacker_findRun 34 = .ok (.istore_n 3, 1) := by decide +kernel
theorem zd_XPacker_findRun_35 : decode zb_XPacker_findRun 35 = .ok (.iconst 0, 1) := by decide +kernel
theorem zd_XPacker_findRun_36 : decode zb_XPacker_findRun 36 = .ok (.istore 4, 2) := by decide +kernel
theorem zd_XPacker_findRun_38 : decode zb_XPacker_findRun 38 = .ok (.iload 4, 2) := by decide +kernel
theorem zd_XPacker_findRun_40 : decode zb_XPacker_findRun 40 = .ok (.iload_n 1, 1) := by decide +kernel
theorem zd_XPacker_findRun_41 : decode zb_XPacker_findRun 41 = .ok (.if_icmp .ge 59, 3) := by decide +kernel
theorem zd_XPacker_findRun_44 : decode zb_XPacker_findRun 44 = .ok (.iload_n 3, 1) := by decide +kernel
theorem zd_XPacker_findRun_45 : decode zb_XPacker_findRun 45 = .ok (.ifCond .lt 55, 3) := by decide +kernel
theorem zd_XPacker_findRun_48 : decode zb_XPacker_findRun 48 = .ok (.aload_n 0, 1) := by decide +kernel
theorem zd_XPacker_findRun_49 : decode zb_XPacker_findRun 49 = .ok (.getfield 124, 3) := by decide +kernel
theorem zd_XPacker_findRun_52 : decode zb_XPacker_findRun 52 = .ok (.iload_n 2, 1) := by decide +kernel
theorem zd_XPacker_findRun_53 : decode zb_XPacker_findRun 53 = .ok (.if_icmp .ge 47, 3) := by decide +kernel
theorem zd_XPacker_findRun_56 : decode zb_XPacker_findRun 56 = .ok (.aload_n 0, 1) := by decide +kernel
theorem zd_XPacker_findRun_57 : decode zb_XPacker_findRun 57 = .ok (.iload_n 3, 1) := by decide +kernel
theorem zd_XPacker_findRun_58 : decode zb_XPacker_findRun 58 = .ok (.iload_n 1, 1) := by decide +kernel
theorem zd_XPacker_findRun_59 : decode zb_XPacker_findRun 59 = .ok (.iload_n 2, 1) := by decide +kernel
theorem zd_XPacker_findRun_60 : decode zb_XPacker_findRun 60 = .ok (.invokevirtual 145, 3) := by decide +kernel
theorem zd_XPacker_findRun_63 : decode zb_XPacker_findRun 63 = .ok (.istore 5, 2) := by decide +kernel
theorem zd_XPacker_findRun_65 : decode zb_XPacker_findRun 65 = .ok (.iload 5, 2) := by decide +kernel
theorem zd_XPacker_findRun_67 : decode zb_XPacker_findRun 67 = .ok (.aload_n 0, 1) := by decide +kernel
theorem zd_XPacker_findRun_68 : decode zb_XPacker_findRun 68 = .ok (.getfield 124, 3) := by decide +kernel
theorem zd_XPacker_findRun_71 : decode zb_XPacker_findRun 71 = .ok (.if_icmp .le 16, 3) := by decide +kernel
theorem zd_XPacker_findRun_74 : decode zb_XPacker_findRun 74 = .ok (.aload_n 0, 1) := by decide +kernel
theorem zd_XPacker_findRun_75 : decode zb_XPacker_findRun 75 = .ok (.iload 5, 2) := by decide +kernel
theorem zd_XPacker_findRun_77 : decode zb_XPacker_findRun 77 = .ok (.putfield 124, 3) := by decide +kernel
theorem zd_XPacker_findRun_80 : decode zb_XPacker_findRun 80 = .ok (.aload_n 0, 1) := by decide +kernel
theorem zd_XPacker_findRun_81 : decode zb_XPacker_findRun 81 = .ok (.iload_n 1, 1) := by decide +kernel
theorem zd_XPacker_findRun_82 : decode zb_XPacker_findRun 82 = .ok (.iload_n 3, 1) := by decide +kernel
theorem zd_XPacker_findRun_83 : decode zb_XPacker_findRun 83 = .ok (.isub, 1) := by decide +kernel
theorem zd_XPacker_findRun_84 : decode zb_XPacker_findRun 84 = .ok (.putfield 130, 3) := by decide +kernel
theorem zd_XPacker_findRun_87 : decode zb_XPacker_findRun 87 = .ok (.aload_n 0, 1) := by decide +kernel
theorem zd_XPacker_findRun_88 : decode zb_XPacker_findRun 88 = .ok (.getfield 25, 3) := by decide +kernel
theorem zd_XPacker_findRun_91 : decode zb_XPacker_findRun 91 = .ok (.iload_n 3, 1) := by decide +kernel
theorem zd_XPacker_findRun_92 : decode zb_XPacker_findRun 92 = .ok (.iaload, 1) := by decide +kernel
theorem zd_XPacker_findRun_93 : decode zb_XPacker_findRun 93 = .ok (.istore_n 3, 1) := by decide +kernel
theorem zd_XPacker_findRun_94 : decode zb_XPacker_findRun 94 = .ok (.iinc 4 1, 3) := by decide +kernel
theorem zd_XPacker_findRun_97 : decode zb_XPacker_findRun 97 = .ok (.goto (-59), 3) := by decide +kernel
theorem zd_XPacker_findRun_100 : decode zb_XPacker_findRun 100 = .ok (.return_, 1) := by decide +kernel
theorem zw_90 : (Jvm.Cond.fieldLink "OrreryBox$Packer" (124 : Nat) "OrreryBox$Packer" "runLength" "I") ∈ gw := gw_t 90 (by decide +kernel) rfl
theorem zf_I_4_7 (b : Nat) (m : zMem) (k : Nat) (v : Int32) : (zfl b 4 m k).set 7 (.int v) = zfl b 4 (mI m k 7 v) k := by simp [zfl, mI, upd, vp_updL]
theorem zw_1024 : (Jvm.Cond.methodLink "OrreryBox$Packer" (142 : Nat) ({ cls := "OrreryBox$Packer", name := "keyOf", desc := "(I)I" } : Jvm.MethodName)) ∈ gw := gw_t 1024 (by decide +kernel) rfl
theorem zw_1026 : (Jvm.Cond.instanceMethod ({ cls := "OrreryBox$Packer", name := "keyOf", desc := "(I)I" } : Jvm.MethodName)) ∈ gw := gw_t 1026 (by decide +kernel) rfl
theorem zv_38 : (Jvm.Cond.selects "OrreryBox$Packer" (⟨"OrreryBox$Packer", "keyOf", "(I)I"⟩ : MethodName) ⟨"OrreryBox$Packer", "keyOf", "(I)I"⟩) ∈ gw := gw_s 38 (by decide +kernel) rfl
theorem zs_XPacker_142 : zwV "OrreryBox$Packer" 142 "OrreryBox$Packer" zy_XPacker_keyOf zb_XPacker_keyOf 2 (some .int) := ⟨zw_1024, zw_1026, zv_38, zw_3, zc_XPacker_keyOf⟩
theorem zw_1028 : (Jvm.Cond.methodLink "OrreryBox$Packer" (145 : Nat) ({ cls := "OrreryBox$Packer", name := "sameFrom", desc := "(III)I" } : Jvm.MethodName)) ∈ gw := gw_t 1028 (by decide +kernel) rfl
theorem zw_1030 : (Jvm.Cond.instanceMethod ({ cls := "OrreryBox$Packer", name := "sameFrom", desc := "(III)I" } : Jvm.MethodName)) ∈ gw := gw_t 1030 (by decide +kernel) rfl
theorem zv_39 : (Jvm.Cond.selects "OrreryBox$Packer" (⟨"OrreryBox$Packer", "sameFrom", "(III)I"⟩ : MethodName) ⟨"OrreryBox$Packer", "sameFrom", "(III)I"⟩) ∈ gw := gw_s 39 (by decide +kernel) rfl
theorem zs_XPacker_145 : zwV "OrreryBox$Packer" 145 "OrreryBox$Packer" zy_XPacker_sameFrom zb_XPacker_sameFrom 5 (some .int) := ⟨zw_1028, zw_1030, zv_39, zw_3, zc_XPacker_sameFrom⟩
theorem zw_91 : (Jvm.Cond.fieldLink "OrreryBox$Packer" (130 : Nat) "OrreryBox$Packer" "runBack" "I") ∈ gw := gw_t 91 (by decide +kernel) rfl
theorem zf_I_4_8 (b : Nat) (m : zMem) (k : Nat) (v : Int32) : (zfl b 4 m k).set 8 (.int v) = zfl b 4 (mI m k 8 v) k := by simp [zfl, mI, upd, vp_updL]
def L_XPacker_findRun_38 (sh : zSh) (fuel : Nat) (v0 : Nat) (v1 : Int32) (v2 : Int32) (v3 : Int32) (v4 : Int32) (mm : zMem) : Option (Nat × Int32 × Int32 × Int32 × Int32 × zMem) := match fuel with
  | 0 => none
  | fu + 1 => (if v1 ≤ v4 then some (v0, v1, v2, v3, v4, mm) else (if v3 < 0 then some (v0, v1, v2, v3, v4, mm) else zoS (sh v0) 4 (fun le22 => (if v2 ≤ (mm.1 v0 7) then some (v0, v1, v2, v3, v4, mm) else zoS (sh v0) 4 (fun le25 => Option.bind (F_XPacker_sameFrom sh mm v0 v3 v1 v2) (fun p26 => zoS (sh v0) 4 (fun le28 => (if p26.1 ≤ ((p26.2).1 v0 7) then zoS (sh v0) 4 (fun le31 => Option.bind ((p26.2).2.2 v0 6) (fun a32 => zoS (sh a32) 100 (fun le34 => if (v3 : Int32) < 0 ∨ le34 ≤ (v3 : Int32).toNatClampNeg then none else zoL ((p26.2).1 a32 (v3 : Int32).toNatClampNeg) (fun x36 => L_XPacker_findRun_38 sh fu v0 v1 v2 x36 (v4 + 1) (p26.2))))) else zoS (sh v0) 4 (fun le38 => zoL (mI (p26.2) v0 7 (p26.1)) (fun mm39 => zoL (v1 - v3) (fun x40 => zoS (sh v0) 4 (fun le42 => zoL (mI mm39 v0 8 x40) (fun mm43 => zoS (sh v0) 4 (fun le45 => Option.bind (mm43.2.2 v0 6) (fun a46 => zoS (sh a46) 100 (fun le48 => if (v3 : Int32) < 0 ∨ le48 ≤ (v3 : Int32).toNatClampNeg then none else zoL (mm43.1 a46 (v3 : Int32).toNatClampNeg) (fun x50 => L_XPacker_findRun_38 sh fu v0 v1 v2 x50 (v4 + 1) mm43)))))))))))))))))
set_option maxHeartbeats 4000000 in
set_option maxRecDepth 100000 in
theorem lp_XPacker_findRun_38 {p : Program} {l : Launch} {e : Env} {s : State} {m : MethodId} {args : Array Value} {below : List Frame} {meth : Method} {c : Code} {D : va_G} {tA : Nat → ClassId} {b n : Nat} {post : Option Value → zV → Nat → Prop} {sh : zSh} (F : zF p s m args meth c zb_XPacker_findRun 6 "OrreryBox$Packer" D tA b) : ∀ (fuel : Nat) (v0 : Nat) (v1 : Int32) (v2 : Int32) (v3 : Int32) (v4 : Int32) (mm : zMem) (r : Nat × Int32 × Int32 × Int32 × Int32 × zMem), L_XPacker_findRun_38 sh fuel v0 v1 v2 v3 v4 mm = some r → (Z p l e { frames := 1, cells := 0, slots := 0, locals := 24 } s m args below meth c D b 6 (MQ below (zQ D b post) args s 0 0 (fun q => b ≤ q)) (zW tA b sh r.2.2.2.2.2) n 0 0 100 [(0, .ref (b + (r.1))), (1, .int (r.2.1)), (2, .int (r.2.2.1)), (3, .int (r.2.2.2.1)), (4, .int (r.2.2.2.2.1))] []) → Z p l e { frames := 1, cells := 0, slots := 0, locals := 24 } s m args below meth c D b 6 (MQ below (zQ D b post) args s 0 0 (fun q => b ≤ q)) (zW tA b sh mm) n 0 0 38 [(0, .ref (b + v0)), (1, .int v1), (2, .int v2), (3, .int v3), (4, .int v4)] [] := by
  intro fuel
  induction fuel with
  | zero =>
    intro v0 v1 v2 v3 v4 mm r h
    cases h
  | succ fu ih =>
    intro v0 v1 v2 v3 v4 mm r h hx0
    rw [L_XPacker_findRun_38] at h
    refine zr_iload F zd_XPacker_findRun_38 rfl ?_
    refine zr_pcn 40 rfl ?_
    refine zr_iload_n F zd_XPacker_findRun_40 rfl ?_
    refine zr_icmp_ge F 100 zd_XPacker_findRun_41 (by decide) (fun hb19 => ?_) (fun hb19 => ?_)
    ·
      rw [if_pos hb19] at h
      obtain rfl := Option.some.inj h
      refine zr_loc (L' := [(0, .ref (b + v0)), (1, .int v1), (2, .int v2), (3, .int v3), (4, .int v4)]) ⟨rfl, rfl, rfl, rfl, rfl, trivial⟩ ?_
      exact hx0 
    ·
      rw [if_neg hb19] at h
      refine zr_iload_n F zd_XPacker_findRun_44 rfl ?_
      refine zr_if_lt F 100 zd_XPacker_findRun_45 (by decide) (fun hb20 => ?_) (fun hb20 => ?_)
      ·
        rw [if_pos hb20] at h
        obtain rfl := Option.some.inj h
        refine zr_loc (L' := [(0, .ref (b + v0)), (1, .int v1), (2, .int v2), (3, .int v3), (4, .int v4)]) ⟨rfl, rfl, rfl, rfl, rfl, trivial⟩ ?_
        exact hx0 
      ·
        rw [if_neg hb20] at h
        refine zr_aload_n F zd_XPacker_findRun_48 rfl ?_
        obtain ⟨le22, hs21, h⟩ := zoS_s h
        refine zr_get F 4 7 zd_XPacker_findRun_49 (zW_o hs21 (by decide)) rfl (by decide) zw_90 rfl (by rfl) ?_
        refine zr_iload_n F zd_XPacker_findRun_52 rfl ?_
        refine zr_icmp_ge F 100 zd_XPacker_findRun_53 (by decide) (fun hb23 => ?_) (fun hb23 => ?_)
        ·
          rw [if_pos hb23] at h
          obtain rfl := Option.some.inj h
          refine zr_loc (L' := [(0, .ref (b + v0)), (1, .int v1), (2, .int v2), (3, .int v3), (4, .int v4)]) ⟨rfl, rfl, rfl, rfl, rfl, trivial⟩ ?_
          exact hx0 
        ·
          rw [if_neg hb23] at h
          refine zr_pcn 56 rfl ?_
          refine zr_aload_n F zd_XPacker_findRun_56 rfl ?_
          refine zr_iload_n F zd_XPacker_findRun_57 rfl ?_
          refine zr_iload_n F zd_XPacker_findRun_58 rfl ?_
          refine zr_iload_n F zd_XPacker_findRun_59 rfl ?_
          obtain ⟨le25, hs24, h⟩ := zoS_s h
          obtain ⟨p26, ep26, h⟩ := zoB_s h
          refine zr_callV1 F (k_XPacker_sameFrom l D tA b sh _ ep26) zd_XPacker_findRun_60 (zW_o hs24 (by decide)) rfl zs_XPacker_145 rfl zq_XPacker_sameFrom rfl rfl ⟨(Nat.le_of_ble_eq_true rfl), (Nat.le_of_ble_eq_true rfl)⟩ (Nat.le_of_ble_eq_true rfl) ⟨(Nat.le_of_ble_eq_true rfl), (Nat.le_of_ble_eq_true rfl)⟩ ?_
          refine zr_istore F zd_XPacker_findRun_63 (by decide) ?_
          refine zr_iload F zd_XPacker_findRun_65 rfl ?_
          refine zr_aload_n F zd_XPacker_findRun_67 rfl ?_
          refine zr_pcn 68 rfl ?_
          obtain ⟨le28, hs27, h⟩ := zoS_s h
          refine zr_get F 4 7 zd_XPacker_findRun_68 (zW_o hs27 (by decide)) rfl (by decide) zw_90 rfl (by rfl) ?_
          refine zr_icmp_le F 87 zd_XPacker_findRun_71 (by decide) (fun hb29 => ?_) (fun hb29 => ?_)
          ·
            rw [if_pos hb29] at h
            refine zr_aload_n F zd_XPacker_findRun_87 rfl ?_
            obtain ⟨le31, hs30, h⟩ := zoS_s h
            obtain ⟨a32, ea32, h⟩ := zoB_s h
            refine zr_get F 4 6 zd_XPacker_findRun_88 (zW_o hs30 (by decide)) rfl (by decide) zw_89 rfl (by rfl) ?_
            refine zr_tor ea32 ?_
            refine zr_iload_n F zd_XPacker_findRun_91 rfl ?_
            obtain ⟨le34, hs33, h⟩ := zoS_s h
            obtain ⟨hi35, h⟩ := zoI_s h
            refine zr_iald F zd_XPacker_findRun_92 (zW_a0 hs33) hi35 ?_
            obtain ⟨x36, ex36, h⟩ := zoL_s h
            rw [← ex36]
            refine zr_istore_n F zd_XPacker_findRun_93 (by decide) ?_
            refine zr_iinc (v := (v4 + 1)) F zd_XPacker_findRun_94 rfl rfl (by decide) ?_
            refine zr_pcn 97 rfl ?_
            refine zr_goto F 38 zd_XPacker_findRun_97 (by decide) ?_
            refine zr_loc (L' := [(0, .ref (b + v0)), (1, .int v1), (2, .int v2), (3, .int x36), (4, .int (v4 + 1))]) ⟨rfl, rfl, rfl, rfl, rfl, trivial⟩ ?_
            exact ih _ _ _ _ _ _ _ h hx0
          ·
            rw [if_neg hb29] at h
            refine zr_aload_n F zd_XPacker_findRun_74 rfl ?_
            refine zr_iload F zd_XPacker_findRun_75 rfl ?_
            obtain ⟨le38, hs37, h⟩ := zoS_s h
            refine zr_put F 4 7 zd_XPacker_findRun_77 (zW_o hs37 (by decide)) rfl (by decide) zw_90 rfl rfl rfl rfl (by exact (Nat.le_of_ble_eq_true rfl)) ?_
            obtain ⟨mm39, emm39, h⟩ := zoL_s h
            refine zr_norm (zW tA b sh mm39) _ (by rw [emm39]; exact zW_pI (v := (p26.1)) hs37 (by decide) (zf_I_4_7 b _ _ _)) rfl ?_
            refine zr_aload_n F zd_XPacker_findRun_80 rfl ?_
            refine zr_iload_n F zd_XPacker_findRun_81 rfl ?_
            refine zr_iload_n F zd_XPacker_findRun_82 rfl ?_
            refine zr_isub F zd_XPacker_findRun_83 ?_
            refine zr_pcn 84 rfl ?_
            obtain ⟨x40, ex40, h⟩ := zoL_s h
            rw [← ex40]
            obtain ⟨le42, hs41, h⟩ := zoS_s h
            refine zr_put F 4 8 zd_XPacker_findRun_84 (zW_o hs41 (by decide)) rfl (by decide) zw_91 rfl rfl rfl rfl (by exact (Nat.le_of_ble_eq_true rfl)) ?_
            obtain ⟨mm43, emm43, h⟩ := zoL_s h
            refine zr_norm (zW tA b sh mm43) _ (by rw [emm43]; exact zW_pI (v := x40) hs41 (by decide) (zf_I_4_8 b _ _ _)) rfl ?_
            refine zr_aload_n F zd_XPacker_findRun_87 rfl ?_
            obtain ⟨le45, hs44, h⟩ := zoS_s h
            obtain ⟨a46, ea46, h⟩ := zoB_s h
            refine zr_get F 4 6 zd_XPacker_findRun_88 (zW_o hs44 (by decide)) rfl (by decide) zw_89 rfl (by rfl) ?_
            refine zr_tor ea46 ?_
            refine zr_iload_n F zd_XPacker_findRun_91 rfl ?_
            obtain ⟨le48, hs47, h⟩ := zoS_s h
            obtain ⟨hi49, h⟩ := zoI_s h
            refine zr_iald F zd_XPacker_findRun_92 (zW_a0 hs47) hi49 ?_
            obtain ⟨x50, ex50, h⟩ := zoL_s h
            rw [← ex50]
            refine zr_istore_n F zd_XPacker_findRun_93 (by decide) ?_
            refine zr_iinc (v := (v4 + 1)) F zd_XPacker_findRun_94 rfl rfl (by decide) ?_
            refine zr_goto F 38 zd_XPacker_findRun_97 (by decide) ?_
            refine zr_loc (L' := [(0, .ref (b + v0)), (1, .int v1), (2, .int v2), (3, .int x50), (4, .int (v4 + 1))]) ⟨rfl, rfl, rfl, rfl, rfl, trivial⟩ ?_
            exact ih _ _ _ _ _ _ _ h hx0
def F_XPacker_findRun (sh : zSh) (mm : zMem) (o : Nat) (x0_ : Int32) : Option zMem := zoS (sh o) 4 (fun le2 => zoL (zx_min 258 ((mm.1 o 4) - x0_)) (fun x4 => zoS (sh o) 4 (fun le6 => zoL (mI mm o 7 0) (fun mm7 => (if 3 ≤ x4 then zoS (sh o) 4 (fun le10 => Option.bind (mm7.2.2 o 5) (fun a11 => zoS (sh o) 4 (fun le13 => Option.bind (F_XPacker_keyOf sh mm7 o x0_) (fun p14 => zoS (sh a11) 100 (fun le16 => if (p14.1 : Int32) < 0 ∨ le16 ≤ (p14.1 : Int32).toNatClampNeg then none else zoL ((p14.2).1 a11 (p14.1 : Int32).toNatClampNeg) (fun x18 => Option.bind (L_XPacker_findRun_38 sh zfuel o x0_ x4 x18 0 (p14.2)) (fun q51 => some (q51.2.2.2.2.2)))))))) else some mm7)))))
set_option maxHeartbeats 4000000 in
set_option maxRecDepth 100000 in
theorem k_XPacker_findRun (l : Launch) (D : va_G) (tA : Nat → ClassId) (b : Nat) (sh : zSh) (n : Nat) {mm : zMem} {o : Nat} {x0_ : Int32} {r : zMem} (h : F_XPacker_findRun sh mm o x0_ = some r) : zM l D tA b zy_XPacker_findRun zb_XPacker_findRun 6 none 1 24 0 0 [.ref (b + o), .int x0_] (zW tA b sh mm) n (zE none (zW tA b sh r) n) := by
  unfold F_XPacker_findRun at h
  refine zM_of (own := "OrreryBox$Packer") (plainFor_of_name (by decide)) rfl (Nat.le_of_ble_eq_true rfl) (fun p e s m below meth c F hr hin hH => ?_)
  refine zr_sipushv (v := 258) F zd_XPacker_findRun_0 (by decide) ?_
  refine zr_aload_n F zd_XPacker_findRun_3 rfl ?_
  obtain ⟨le2, hs1, h⟩ := zoS_s h
  refine zr_get F 4 4 zd_XPacker_findRun_4 (zW_o hs1 (by decide)) rfl (by decide) zw_87 rfl (by rfl) ?_
  refine zr_iload_n F zd_XPacker_findRun_7 rfl ?_
  refine zr_isub F zd_XPacker_findRun_8 ?_
  refine zr_callS1 F (c_JMath_min l D tA b _ _ 258 ((mm.1 o 4) - x0_)) zd_XPacker_findRun_9 zs_XPacker_82 zq_JMath_min rfl rfl ⟨(Nat.le_of_ble_eq_true rfl), (Nat.le_of_ble_eq_true rfl)⟩ (Nat.le_of_ble_eq_true rfl) ⟨(Nat.le_of_ble_eq_true rfl), (Nat.le_of_ble_eq_true rfl)⟩ ?_
  obtain ⟨x4, ex4, h⟩ := zoL_s h
  rw [← ex4]
  refine zr_istore_n F zd_XPacker_findRun_12 (by decide) ?_
  refine zr_pcn 13 rfl ?_
  refine zr_aload_n F zd_XPacker_findRun_13 rfl ?_
  refine zr_iconstv (v := 0) F zd_XPacker_findRun_14 (by decide) ?_
  obtain ⟨le6, hs5, h⟩ := zoS_s h
  refine zr_put F 4 7 zd_XPacker_findRun_15 (zW_o hs5 (by decide)) rfl (by decide) zw_90 rfl rfl rfl rfl (by exact (Nat.le_of_ble_eq_true rfl)) ?_
  obtain ⟨mm7, emm7, h⟩ := zoL_s h
  refine zr_norm (zW tA b sh mm7) _ (by rw [emm7]; exact zW_pI (v := 0) hs5 (by decide) (zf_I_4_7 b _ _ _)) rfl ?_
  refine zr_iload_n F zd_XPacker_findRun_18 rfl ?_
  refine zr_iconstv (v := 3) F zd_XPacker_findRun_19 (by decide) ?_
  refine zr_icmp_ge F 24 zd_XPacker_findRun_20 (by decide) (fun hb8 => ?_) (fun hb8 => ?_)
  ·
    rw [if_pos hb8] at h
    refine zr_aload_n F zd_XPacker_findRun_24 rfl ?_
    obtain ⟨le10, hs9, h⟩ := zoS_s h
    obtain ⟨a11, ea11, h⟩ := zoB_s h
    refine zr_get F 4 5 zd_XPacker_findRun_25 (zW_o hs9 (by decide)) rfl (by decide) zw_88 rfl (by rfl) ?_
    refine zr_tor ea11 ?_
    refine zr_pcn 28 rfl ?_
    refine zr_aload_n F zd_XPacker_findRun_28 rfl ?_
    refine zr_iload_n F zd_XPacker_findRun_29 rfl ?_
    obtain ⟨le13, hs12, h⟩ := zoS_s h
    obtain ⟨p14, ep14, h⟩ := zoB_s h
    refine zr_callV1 F (k_XPacker_keyOf l D tA b sh _ ep14) zd_XPacker_findRun_30 (zW_o hs12 (by decide)) rfl zs_XPacker_142 rfl zq_XPacker_keyOf rfl rfl ⟨(Nat.le_of_ble_eq_true rfl), (Nat.le_of_ble_eq_true rfl)⟩ (Nat.le_of_ble_eq_true rfl) ⟨(Nat.le_of_ble_eq_true rfl), (Nat.le_of_ble_eq_true rfl)⟩ ?_
    obtain ⟨le16, hs15, h⟩ := zoS_s h
    obtain ⟨hi17, h⟩ := zoI_s h
    refine zr_iald F zd_XPacker_findRun_33 (zW_a0 hs15) hi17 ?_
    obtain ⟨x18, ex18, h⟩ := zoL_s h
    rw [← ex18]
    refine zr_istore_n F zd_XPacker_findRun_34 (by decide) ?_
    refine zr_iconstv (v := 0) F zd_XPacker_findRun_35 (by decide) ?_
    refine zr_istore F zd_XPacker_findRun_36 (by decide) ?_
    obtain ⟨q51, eq51, h⟩ := zoB_s h
    refine zr_loc (L' := [(0, .ref (b + o)), (1, .int x0_), (2, .int x4), (3, .int x18), (4, .int 0)]) ⟨rfl, rfl, rfl, rfl, rfl, trivial⟩ ?_
    refine lp_XPacker_findRun_38 F _ _ _ _ _ _ _ _ eq51 ?_
    ·
      refine zr_pcn 100 rfl ?_
      obtain rfl := Option.some.inj h
      exact zr_vret F hr zd_XPacker_findRun_100 (Nat.le_of_ble_eq_true rfl) (Nat.le_of_ble_eq_true rfl) ⟨rfl, rfl, rfl⟩
  ·
    rw [if_neg hb8] at h
    obtain rfl := Option.some.inj h
    exact zr_vret F hr zd_XPacker_findRun_23 (Nat.le_of_ble_eq_true rfl) (Nat.le_of_ble_eq_true rfl) ⟨rfl, rfl, rfl⟩
abbrev zb_XPacker_remember : ByteArray := prog_5_method_18_code
def zy_XPacker_remember : MethodName := ⟨"OrreryBox$Packer", "remember", "(I)V"⟩
theorem zc_XPacker_remember : Cond.code zy_XPacker_remember zb_XPacker_remember 3 none ∈ gw := gw_t 1051 (by decide +kernel) rfl
theorem zq_XPacker_remember : zy_XPacker_remember.cls ≠ "java/lang/invoke/MethodHandle" ∧ zy_XPacker_remember.cls ≠ "java/lang/invoke/VarHandle" ∧ (parseMethodDescriptor zy_XPacker_remember.desc).map (fun d => d.parameters.length) = some 1 := by decide +kernel
theorem zd_XPacker_remember_0 : decode zb_XPacker_remember 0 = .ok (.iload_n 1, 1) := by decide +kernel
theorem zd_XPacker_remember_1 : decode zb_XPacker_remember 1 = .ok (.iconst 2, 1) := by decide +kernel
theorem zd_XPacker_remember_2 : decode zb_XPacker_remember 2 = .ok (.iadd, 1) := by decide +kernel
theorem zd_XPacker_remember_3 : decode zb_XPacker_remember 3 = .ok (.aload_n 0, 1) := by decide +kernel
theorem zd_XPacker_remember_4 : decode zb_XPacker_remember 4 = .ok (.getfield 70, 3) := by decide +kernel
theorem zd_XPacker_remember_7 : decode zb_XPacker_remember 7 = .ok (.if_icmp .ge 28, 3) := by decide +kernel
theorem zd_XPacker_remember_10 : decode zb_XPacker_remember 10 = .ok (.aload_n 0, 1) := by decide +kernel
theorem zd_XPacker_remember_11 : decode zb_XPacker_remember 11 = .ok (.iload_n 1, 1) := by decide +kernel
theorem zd_XPacker_remember_12 : decode zb_XPacker_remember 12 = .ok (.invokevirtual 142, 3) := by decide +kernel
theorem zd_XPacker_remember_15 : decode zb_XPacker_remember 15 = .ok (.istore_n 2, 1) := by decide +kernel
theorem zd_XPacker_remember_16 : decode zb_XPacker_remember 16 = .ok (.aload_n 0, 1) := by decide +kernel
theorem zd_XPacker_remember_17 : decode zb_XPacker_remember 17 = .ok (.getfield 25, 3) := by decide +kernel
theorem zd_XPacker_remember_20 : decode zb_XPacker_remember 20 = .ok (.iload_n 1, 1) := by decide +kernel
theorem zd_XPacker_remember_21 : decode zb_XPacker_remember 21 = .ok (.aload_n 0, 1) := by decide +kernel
theorem zd_XPacker_remember_22 : decode zb_XPacker_remember 22 = .ok (.getfield 22, 3) := by decide +kernel
theorem zd_XPacker_remember_25 : decode zb_XPacker_remember 25 = .ok (.iload_n 2, 1) := by decide +kernel
theorem zd_XPacker_remember_26 : decode zb_XPacker_remember 26 = .ok (.iaload, 1) := by decide +kernel
theorem zd_XPacker_remember_27 : decode zb_XPacker_remember 27 = .ok (.iastore, 1) := by decide +kernel
theorem zd_XPacker_remember_28 : decode zb_XPacker_remember 28 = .ok (.aload_n 0, 1) := by decide +kernel
theorem zd_XPacker_remember_29 : decode zb_XPacker_remember 29 = .ok (.getfield 22, 3) := by decide +kernel
theorem zd_XPacker_remember_32 : decode zb_XPacker_remember 32 = .ok (.iload_n 2, 1) := by decide +kernel
theorem zd_XPacker_remember_33 : decode zb_XPacker_remember 33 = .ok (.iload_n 1, 1) := by decide +kernel
theorem zd_XPacker_remember_34 : decode zb_XPacker_remember 34 = .ok (.iastore, 1) := by decide +kernel
theorem zd_XPacker_remember_35 : decode zb_XPacker_remember 35 = .ok (.return_, 1) := by decide +kernel
def F_XPacker_remember (sh : zSh) (mm : zMem) (o : Nat) (x0_ : Int32) : Option zMem := zoS (sh o) 4 (fun le2 => (if (mm.1 o 4) ≤ (x0_ + 2) then some mm else zoS (sh o) 4 (fun le5 => Option.bind (F_XPacker_keyOf sh mm o x0_) (fun p6 => zoS (sh o) 4 (fun le8 => Option.bind ((p6.2).2.2 o 6) (fun a9 => zoS (sh o) 4 (fun le11 => Option.bind ((p6.2).2.2 o 5) (fun a12 => zoS (sh a12) 100 (fun le14 => if (p6.1 : Int32) < 0 ∨ le14 ≤ (p6.1 : Int32).toNatClampNeg then none else zoL ((p6.2).1 a12 (p6.1 : Int32).toNatClampNeg) (fun x16 => zoS (sh a9) 100 (fun le18 => if (x0_ : Int32) < 0 ∨ le18 ≤ (x0_ : Int32).toNatClampNeg then none else zoL (mI (p6.2) a9 (x0_ : Int32).toNatClampNeg x16) (fun mm20 => zoS (sh o) 4 (fun le22 => Option.bind (mm20.2.2 o 5) (fun a23 => zoS (sh a23) 100 (fun le25 => if (p6.1 : Int32) < 0 ∨ le25 ≤ (p6.1 : Int32).toNatClampNeg then none else zoL (mI mm20 a23 (p6.1 : Int32).toNatClampNeg x0_) (fun mm27 => some mm27))))))))))))))))
set_option maxHeartbeats 4000000 in
set_option maxRecDepth 100000 in
theorem k_XPacker_remember (l : Launch) (D : va_G) (tA : Nat → ClassId) (b : Nat) (sh : zSh) (n : Nat) {mm : zMem} {o : Nat} {x0_ : Int32} {r : zMem} (h : F_XPacker_remember sh mm o x0_ = some r) : zM l D tA b zy_XPacker_remember zb_XPacker_remember 3 none 1 21 0 0 [.ref (b + o), .int x0_] (zW tA b sh mm) n (zE none (zW tA b sh r) n) := by
  unfold F_XPacker_remember at h
  refine zM_of (own := "OrreryBox$Packer") (plainFor_of_name (by decide)) rfl (Nat.le_of_ble_eq_true rfl) (fun p e s m below meth c F hr hin hH => ?_)
  refine zr_iload_n F zd_XPacker_remember_0 rfl ?_
  refine zr_iconstv (v := 2) F zd_XPacker_remember_1 (by decide) ?_
  refine zr_iadd F zd_XPacker_remember_2 ?_
  refine zr_aload_n F zd_XPacker_remember_3 rfl ?_
  obtain ⟨le2, hs1, h⟩ := zoS_s h
  refine zr_get F 4 4 zd_XPacker_remember_4 (zW_o hs1 (by decide)) rfl (by decide) zw_87 rfl (by rfl) ?_
  refine zr_icmp_ge F 35 zd_XPacker_remember_7 (by decide) (fun hb3 => ?_) (fun hb3 => ?_)
  ·
    rw [if_pos hb3] at h
    obtain rfl := Option.some.inj h
    exact zr_vret F hr zd_XPacker_remember_35 (Nat.le_of_ble_eq_true rfl) (Nat.le_of_ble_eq_true rfl) ⟨rfl, rfl, rfl⟩
  ·
    rw [if_neg hb3] at h
    refine zr_pcn 10 rfl ?_
    refine zr_aload_n F zd_XPacker_remember_10 rfl ?_
    refine zr_iload_n F zd_XPacker_remember_11 rfl ?_
    obtain ⟨le5, hs4, h⟩ := zoS_s h
    obtain ⟨p6, ep6, h⟩ := zoB_s h
    refine zr_callV1 F (k_XPacker_keyOf l D tA b sh _ ep6) zd_XPacker_remember_12 (zW_o hs4 (by decide)) rfl zs_XPacker_142 rfl zq_XPacker_keyOf rfl rfl ⟨(Nat.le_of_ble_eq_true rfl), (Nat.le_of_ble_eq_true rfl)⟩ (Nat.le_of_ble_eq_true rfl) ⟨(Nat.le_of_ble_eq_true rfl), (Nat.le_of_ble_eq_true rfl)⟩ ?_
    refine zr_istore_n F zd_XPacker_remember_15 (by decide) ?_
    refine zr_aload_n F zd_XPacker_remember_16 rfl ?_
    obtain ⟨le8, hs7, h⟩ := zoS_s h
    obtain ⟨a9, ea9, h⟩ := zoB_s h
    refine zr_get F 4 6 zd_XPacker_remember_17 (zW_o hs7 (by decide)) rfl (by decide) zw_89 rfl (by rfl) ?_
    refine zr_tor ea9 ?_
    refine zr_iload_n F zd_XPacker_remember_20 rfl ?_
    refine zr_aload_n F zd_XPacker_remember_21 rfl ?_
    refine zr_pcn 22 rfl ?_
    obtain ⟨le11, hs10, h⟩ := zoS_s h
    obtain ⟨a12, ea12, h⟩ := zoB_s h
    refine zr_get F 4 5 zd_XPacker_remember_22 (zW_o hs10 (by decide)) rfl (by decide) zw_88 rfl (by rfl) ?_
    refine zr_tor ea12 ?_
    refine zr_iload_n F zd_XPacker_remember_25 rfl ?_
    obtain ⟨le14, hs13, h⟩ := zoS_s h
    obtain ⟨hi15, h⟩ := zoI_s h
    refine zr_iald F zd_XPacker_remember_26 (zW_a0 hs13) hi15 ?_
    obtain ⟨x16, ex16, h⟩ := zoL_s h
    rw [← ex16]
    obtain ⟨le18, hs17, h⟩ := zoS_s h
    obtain ⟨hi19, h⟩ := zoI_s h
    refine zr_iast F zd_XPacker_remember_27 (zW_a0 hs17) hi19 ?_
    obtain ⟨mm20, emm20, h⟩ := zoL_s h
    refine zr_norm (zW tA b sh mm20) _ (by rw [emm20]; exact zW_s0 hs17) rfl ?_
    refine zr_aload_n F zd_XPacker_remember_28 rfl ?_
    obtain ⟨le22, hs21, h⟩ := zoS_s h
    obtain ⟨a23, ea23, h⟩ := zoB_s h
    refine zr_get F 4 5 zd_XPacker_remember_29 (zW_o hs21 (by decide)) rfl (by decide) zw_88 rfl (by rfl) ?_
    refine zr_tor ea23 ?_
    refine zr_iload_n F zd_XPacker_remember_32 rfl ?_
    refine zr_iload_n F zd_XPacker_remember_33 rfl ?_
    refine zr_pcn 34 rfl ?_
    obtain ⟨le25, hs24, h⟩ := zoS_s h
    obtain ⟨hi26, h⟩ := zoI_s h
    refine zr_iast F zd_XPacker_remember_34 (zW_a0 hs24) hi26 ?_
    obtain ⟨mm27, emm27, h⟩ := zoL_s h
    refine zr_norm (zW tA b sh mm27) _ (by rw [emm27]; exact zW_s0 hs24) rfl ?_
    obtain rfl := Option.some.inj h
    exact zr_vret F hr zd_XPacker_remember_35 (Nat.le_of_ble_eq_true rfl) (Nat.le_of_ble_eq_true rfl) ⟨rfl, rfl, rfl⟩
abbrev zb_XPacker_putHighFirst : ByteArray := prog_5_method_23_code
def zy_XPacker_putHighFirst : MethodName := ⟨"OrreryBox$Packer", "putHighFirst", "(II)V"⟩
theorem zc_XPacker_putHighFirst : Cond.code zy_XPacker_putHighFirst zb_XPacker_putHighFirst 4 none ∈ gw := gw_t 1043 (by decide +kernel) rfl
theorem zq_XPacker_putHighFirst : zy_XPacker_putHighFirst.cls ≠ "java/lang/invoke/MethodHandle" ∧ zy_XPacker_putHighFirst.cls ≠ "java/lang/invoke/VarHandle" ∧ (parseMethodDescriptor zy_XPacker_putHighFirst.desc).map (fun d => d.parameters.length) = some 2 := by decide +kernel
theorem zd_XPacker_putHighFirst_0 : decode zb_XPacker_putHighFirst 0 = .ok (.iload_n 2, 1) := by decide +kernel
theorem zd_XPacker_putHighFirst_1 : decode zb_XPacker_putHighFirst 1 = .ok (.iconst 1, 1) := by decide +kernel
theorem zd_XPacker_putHighFirst_2 : decode zb_XPacker_putHighFirst 2 = .ok (.isub, 1) := by decide +kernel
theorem zd_XPacker_putHighFirst_3 : decode zb_XPacker_putHighFirst 3 = .ok (.istore_n 3, 1) := by decide +kernel
theorem zd_XPacker_putHighFirst_4 : decode zb_XPacker_putHighFirst 4 = .ok (.iload_n 3, 1) := by decide +kernel
theorem zd_XPacker_putHighFirst_5 : decode zb_XPacker_putHighFirst 5 = .ok (.ifCond .lt 18, 3) := by decide +kernel
theorem zd_XPacker_putHighFirst_8 : decode zb_XPacker_putHighFirst 8 = .ok (.aload_n 0, 1) := by decide +kernel
theorem zd_XPacker_putHighFirst_9 : decode zb_XPacker_putHighFirst 9 = .ok (.iload_n 1, 1) := by decide +kernel
theorem zd_XPacker_putHighFirst_10 : decode zb_XPacker_putHighFirst 10 = .ok (.iload_n 3, 1) := by decide +kernel
theorem zd_XPacker_putHighFirst_11 : decode zb_XPacker_putHighFirst 11 = .ok (.ishr, 1) := by decide +kernel
theorem zd_XPacker_putHighFirst_12 : decode zb_XPacker_putHighFirst 12 = .ok (.iconst 1, 1) := by decide +kernel
theorem zd_XPacker_putHighFirst_13 : decode zb_XPacker_putHighFirst 13 = .ok (.iand, 1) := by decide +kernel
theorem zd_XPacker_putHighFirst_14 : decode zb_XPacker_putHighFirst 14 = .ok (.invokevirtual 151, 3) := by decide +kernel
theorem zd_XPacker_putHighFirst_17 : decode zb_XPacker_putHighFirst 17 = .ok (.iinc 3 (-1), 3) := by decide +kernel
theorem zd_XPacker_putHighFirst_20 : decode zb_XPacker_putHighFirst 20 = .ok (.goto (-16), 3) := by decide +kernel
theorem zd_XPacker_putHighFirst_23 : decode zb_XPacker_putHighFirst 23 = .ok (.return_, 1) := by decide +kernel
theorem zw_1016 : (Jvm.Cond.methodLink "OrreryBox$Packer" (151 : Nat) ({ cls := "OrreryBox$Packer", name := "putBit", desc := "(I)V" } : Jvm.MethodName)) ∈ gw := gw_t 1016 (by decide +kernel) rfl
theorem zw_1018 : (Jvm.Cond.instanceMethod ({ cls := "OrreryBox$Packer", name := "putBit", desc := "(I)V" } : Jvm.MethodName)) ∈ gw := gw_t 1018 (by decide +kernel) rfl
theorem zv_36 : (Jvm.Cond.selects "OrreryBox$Packer" (⟨"OrreryBox$Packer", "putBit", "(I)V"⟩ : MethodName) ⟨"OrreryBox$Packer", "putBit", "(I)V"⟩) ∈ gw := gw_s 36 (by decide +kernel) rfl
theorem zs_XPacker_151 : zwV "OrreryBox$Packer" 151 "OrreryBox$Packer" zy_XPacker_putBit zb_XPacker_putBit 2 none := ⟨zw_1016, zw_1018, zv_36, zw_3, zc_XPacker_putBit⟩
def L_XPacker_putHighFirst_4 (sh : zSh) (fuel : Nat) (v0 : Nat) (v1 : Int32) (v3 : Int32) (mm : zMem) : Option (Nat × Int32 × Int32 × zMem) := match fuel with
  | 0 => none
  | fu + 1 => (if v3 < 0 then some (v0, v1, v3, mm) else zoS (sh v0) 4 (fun le4 => Option.bind (F_XPacker_putBit sh mm v0 ((v1 >>> (v3 &&& 31)) &&& 1)) (fun p5 => L_XPacker_putHighFirst_4 sh fu v0 v1 (v3 + (-1)) p5)))
set_option maxHeartbeats 4000000 in
set_option maxRecDepth 100000 in
theorem lp_XPacker_putHighFirst_4 {p : Program} {l : Launch} {e : Env} {s : State} {m : MethodId} {args : Array Value} {below : List Frame} {meth : Method} {c : Code} {D : va_G} {tA : Nat → ClassId} {b n : Nat} {post : Option Value → zV → Nat → Prop} {sh : zSh} (F : zF p s m args meth c zb_XPacker_putHighFirst 4 "OrreryBox$Packer" D tA b) : ∀ (fuel : Nat) (v0 : Nat) (v1 : Int32) (v3 : Int32) (mm : zMem) (r : Nat × Int32 × Int32 × zMem), L_XPacker_putHighFirst_4 sh fuel v0 v1 v3 mm = some r → (Z p l e { frames := 1, cells := 0, slots := 0, locals := 21 } s m args below meth c D b 4 (MQ below (zQ D b post) args s 0 0 (fun q => b ≤ q)) (zW tA b sh r.2.2.2) n 0 0 23 [(0, .ref (b + (r.1))), (1, .int (r.2.1)), (3, .int (r.2.2.1))] []) → Z p l e { frames := 1, cells := 0, slots := 0, locals := 21 } s m args below meth c D b 4 (MQ below (zQ D b post) args s 0 0 (fun q => b ≤ q)) (zW tA b sh mm) n 0 0 4 [(0, .ref (b + v0)), (1, .int v1), (3, .int v3)] [] := by
  intro fuel
  induction fuel with
  | zero =>
    intro v0 v1 v3 mm r h
    cases h
  | succ fu ih =>
    intro v0 v1 v3 mm r h hx0
    rw [L_XPacker_putHighFirst_4] at h
    refine zr_iload_n F zd_XPacker_putHighFirst_4 rfl ?_
    refine zr_if_lt F 23 zd_XPacker_putHighFirst_5 (by decide) (fun hb2 => ?_) (fun hb2 => ?_)
    ·
      rw [if_pos hb2] at h
      obtain rfl := Option.some.inj h
      refine zr_loc (L' := [(0, .ref (b + v0)), (1, .int v1), (3, .int v3)]) ⟨rfl, rfl, rfl, trivial⟩ ?_
      exact hx0 
    ·
      rw [if_neg hb2] at h
      refine zr_aload_n F zd_XPacker_putHighFirst_8 rfl ?_
      refine zr_pcn 9 rfl ?_
      refine zr_iload_n F zd_XPacker_putHighFirst_9 rfl ?_
      refine zr_iload_n F zd_XPacker_putHighFirst_10 rfl ?_
      refine zr_ishr F zd_XPacker_putHighFirst_11 ?_
      refine zr_iconstv (v := 1) F zd_XPacker_putHighFirst_12 (by decide) ?_
      refine zr_iand F zd_XPacker_putHighFirst_13 ?_
      obtain ⟨le4, hs3, h⟩ := zoS_s h
      obtain ⟨p5, ep5, h⟩ := zoB_s h
      refine zr_callV0 F (k_XPacker_putBit l D tA b sh _ ep5) zd_XPacker_putHighFirst_14 (zW_o hs3 (by decide)) rfl zs_XPacker_151 rfl zq_XPacker_putBit rfl rfl ⟨(Nat.le_of_ble_eq_true rfl), (Nat.le_of_ble_eq_true rfl)⟩ (Nat.le_of_ble_eq_true rfl) ⟨(Nat.le_of_ble_eq_true rfl), (Nat.le_of_ble_eq_true rfl)⟩ ?_
      refine zr_iinc (v := (v3 + (-1))) F zd_XPacker_putHighFirst_17 rfl rfl (by decide) ?_
      refine zr_goto F 4 zd_XPacker_putHighFirst_20 (by decide) ?_
      refine zr_loc (L' := [(0, .ref (b + v0)), (1, .int v1), (3, .int (v3 + (-1)))]) ⟨rfl, rfl, rfl, trivial⟩ ?_
      exact ih _ _ _ _ _ h hx0
def F_XPacker_putHighFirst (sh : zSh) (mm : zMem) (o : Nat) (x0_ : Int32) (x1_ : Int32) : Option zMem := zoL (x1_ - 1) (fun x1 => Option.bind (L_XPacker_putHighFirst_4 sh zfuel o x0_ x1 mm) (fun q6 => some (q6.2.2.2)))
set_option maxHeartbeats 4000000 in
set_option maxRecDepth 100000 in
theorem k_XPacker_putHighFirst (l : Launch) (D : va_G) (tA : Nat → ClassId) (b : Nat) (sh : zSh) (n : Nat) {mm : zMem} {o : Nat} {x0_ : Int32} {x1_ : Int32} {r : zMem} (h : F_XPacker_putHighFirst sh mm o x0_ x1_ = some r) : zM l D tA b zy_XPacker_putHighFirst zb_XPacker_putHighFirst 4 none 1 21 0 0 [.ref (b + o), .int x0_, .int x1_] (zW tA b sh mm) n (zE none (zW tA b sh r) n) := by
  unfold F_XPacker_putHighFirst at h
  refine zM_of (own := "OrreryBox$Packer") (plainFor_of_name (by decide)) rfl (Nat.le_of_ble_eq_true rfl) (fun p e s m below meth c F hr hin hH => ?_)
  refine zr_iload_n F zd_XPacker_putHighFirst_0 rfl ?_
  refine zr_iconstv (v := 1) F zd_XPacker_putHighFirst_1 (by decide) ?_
  refine zr_isub F zd_XPacker_putHighFirst_2 ?_
  obtain ⟨x1, ex1, h⟩ := zoL_s h
  rw [← ex1]
  refine zr_istore_n F zd_XPacker_putHighFirst_3 (by decide) ?_
  obtain ⟨q6, eq6, h⟩ := zoB_s h
  refine zr_loc (L' := [(0, .ref (b + o)), (1, .int x0_), (3, .int x1)]) ⟨rfl, rfl, rfl, trivial⟩ ?_
  refine lp_XPacker_putHighFirst_4 F _ _ _ _ _ _ eq6 ?_
  ·
    refine zr_pcn 23 rfl ?_
    obtain rfl := Option.some.inj h
    exact zr_vret F hr zd_XPacker_putHighFirst_23 (Nat.le_of_ble_eq_true rfl) (Nat.le_of_ble_eq_true rfl) ⟨rfl, rfl, rfl⟩
abbrev zb_XPacker_putLowFirst : ByteArray := prog_5_method_24_code
def zy_XPacker_putLowFirst : MethodName := ⟨"OrreryBox$Packer", "putLowFirst", "(II)V"⟩
theorem zc_XPacker_putLowFirst : Cond.code zy_XPacker_putLowFirst zb_XPacker_putLowFirst 4 none ∈ gw := gw_t 1015 (by decide +kernel) rfl
theorem zq_XPacker_putLowFirst : zy_XPacker_putLowFirst.cls ≠ "java/lang/invoke/MethodHandle" ∧ zy_XPacker_putLowFirst.cls ≠ "java/lang/invoke/VarHandle" ∧ (parseMethodDescriptor zy_XPacker_putLowFirst.desc).map (fun d => d.parameters.length) = some 2 := by decide +kernel
theorem zd_XPacker_putLowFirst_0 : decode zb_XPacker_putLowFirst 0 = .ok (.iconst 0, 1) := by decide +kernel
theorem zd_XPacker_putLowFirst_1 : decode zb_XPacker_putLowFirst 1 = .ok (.istore_n 3, 1) := by decide +kernel
theorem zd_XPacker_putLowFirst_2 : decode zb_XPacker_putLowFirst 2 = .ok (.iload_n 3, 1) := by decide +kernel
theorem zd_XPacker_putLowFirst_3 : decode zb_XPacker_putLowFirst 3 = .ok (.iload_n 2, 1) := by decide +kernel
theorem zd_XPacker_putLowFirst_4 : decode zb_XPacker_putLowFirst 4 = .ok (.if_icmp .ge 18, 3) := by decide +kernel
theorem zd_XPacker_putLowFirst_7 : decode zb_XPacker_putLowFirst 7 = .ok (.aload_n 0, 1) := by decide +kernel
theorem zd_XPacker_putLowFirst_8 : decode zb_XPacker_putLowFirst 8 = .ok (.iload_n 1, 1) := by decide +kernel
theorem zd_XPacker_putLowFirst_9 : decode zb_XPacker_putLowFirst 9 = .ok (.iload_n 3, 1) := by decide +kernel
theorem zd_XPacker_putLowFirst_10 : decode zb_XPacker_putLowFirst 10 = .ok (.ishr, 1) := by decide +kernel
theorem zd_XPacker_putLowFirst_11 : decode zb_XPacker_putLowFirst 11 = .ok (.iconst 1, 1) := by decide +kernel
theorem zd_XPacker_putLowFirst_12 : decode zb_XPacker_putLowFirst 12 = .ok (.iand, 1) := by decide +kernel
theorem zd_XPacker_putLowFirst_13 : decode zb_XPacker_putLowFirst 13 = .ok (.invokevirtual 151, 3) := by decide +kernel
theorem zd_XPacker_putLowFirst_16 : decode zb_XPacker_putLowFirst 16 = .ok (.iinc 3 1, 3) := by decide +kernel
theorem zd_XPacker_putLowFirst_19 : decode zb_XPacker_putLowFirst 19 = .ok (.goto (-17), 3) := by decide +kernel
theorem zd_XPacker_putLowFirst_22 : decode zb_XPacker_putLowFirst 22 = .ok (.return_, 1) := by decide +kernel
def L_XPacker_putLowFirst_2 (sh : zSh) (fuel : Nat) (v0 : Nat) (v1 : Int32) (v2 : Int32) (v3 : Int32) (mm : zMem) : Option (Nat × Int32 × Int32 × Int32 × zMem) := match fuel with
  | 0 => none
  | fu + 1 => (if v2 ≤ v3 then some (v0, v1, v2, v3, mm) else zoS (sh v0) 4 (fun le3 => Option.bind (F_XPacker_putBit sh mm v0 ((v1 >>> (v3 &&& 31)) &&& 1)) (fun p4 => L_XPacker_putLowFirst_2 sh fu v0 v1 v2 (v3 + 1) p4)))
set_option maxHeartbeats 4000000 in
set_option maxRecDepth 100000 in
theorem lp_XPacker_putLowFirst_2 {p : Program} {l : Launch} {e : Env} {s : State} {m : MethodId} {args : Array Value} {below : List Frame} {meth : Method} {c : Code} {D : va_G} {tA : Nat → ClassId} {b n : Nat} {post : Option Value → zV → Nat → Prop} {sh : zSh} (F : zF p s m args meth c zb_XPacker_putLowFirst 4 "OrreryBox$Packer" D tA b) : ∀ (fuel : Nat) (v0 : Nat) (v1 : Int32) (v2 : Int32) (v3 : Int32) (mm : zMem) (r : Nat × Int32 × Int32 × Int32 × zMem), L_XPacker_putLowFirst_2 sh fuel v0 v1 v2 v3 mm = some r → (Z p l e { frames := 1, cells := 0, slots := 0, locals := 21 } s m args below meth c D b 4 (MQ below (zQ D b post) args s 0 0 (fun q => b ≤ q)) (zW tA b sh r.2.2.2.2) n 0 0 22 [(0, .ref (b + (r.1))), (1, .int (r.2.1)), (2, .int (r.2.2.1)), (3, .int (r.2.2.2.1))] []) → Z p l e { frames := 1, cells := 0, slots := 0, locals := 21 } s m args below meth c D b 4 (MQ below (zQ D b post) args s 0 0 (fun q => b ≤ q)) (zW tA b sh mm) n 0 0 2 [(0, .ref (b + v0)), (1, .int v1), (2, .int v2), (3, .int v3)] [] := by
  intro fuel
  induction fuel with
  | zero =>
    intro v0 v1 v2 v3 mm r h
    cases h
  | succ fu ih =>
    intro v0 v1 v2 v3 mm r h hx0
    rw [L_XPacker_putLowFirst_2] at h
    refine zr_iload_n F zd_XPacker_putLowFirst_2 rfl ?_
    refine zr_iload_n F zd_XPacker_putLowFirst_3 rfl ?_
    refine zr_icmp_ge F 22 zd_XPacker_putLowFirst_4 (by decide) (fun hb1 => ?_) (fun hb1 => ?_)
    ·
      rw [if_pos hb1] at h
      obtain rfl := Option.some.inj h
      refine zr_loc (L' := [(0, .ref (b + v0)), (1, .int v1), (2, .int v2), (3, .int v3)]) ⟨rfl, rfl, rfl, rfl, trivial⟩ ?_
      exact hx0 
    ·
      rw [if_neg hb1] at h
      refine zr_aload_n F zd_XPacker_putLowFirst_7 rfl ?_
      refine zr_iload_n F zd_XPacker_putLowFirst_8 rfl ?_
      refine zr_pcn 9 rfl ?_
      refine zr_iload_n F zd_XPacker_putLowFirst_9 rfl ?_
      refine zr_ishr F zd_XPacker_putLowFirst_10 ?_
      refine zr_iconstv (v := 1) F zd_XPacker_putLowFirst_11 (by decide) ?_
      refine zr_iand F zd_XPacker_putLowFirst_12 ?_
      obtain ⟨le3, hs2, h⟩ := zoS_s h
      obtain ⟨p4, ep4, h⟩ := zoB_s h
      refine zr_callV0 F (k_XPacker_putBit l D tA b sh _ ep4) zd_XPacker_putLowFirst_13 (zW_o hs2 (by decide)) rfl zs_XPacker_151 rfl zq_XPacker_putBit rfl rfl ⟨(Nat.le_of_ble_eq_true rfl), (Nat.le_of_ble_eq_true rfl)⟩ (Nat.le_of_ble_eq_true rfl) ⟨(Nat.le_of_ble_eq_true rfl), (Nat.le_of_ble_eq_true rfl)⟩ ?_
      refine zr_iinc (v := (v3 + 1)) F zd_XPacker_putLowFirst_16 rfl rfl (by decide) ?_
      refine zr_goto F 2 zd_XPacker_putLowFirst_19 (by decide) ?_
      refine zr_loc (L' := [(0, .ref (b + v0)), (1, .int v1), (2, .int v2), (3, .int (v3 + 1))]) ⟨rfl, rfl, rfl, rfl, trivial⟩ ?_
      exact ih _ _ _ _ _ _ h hx0
def F_XPacker_putLowFirst (sh : zSh) (mm : zMem) (o : Nat) (x0_ : Int32) (x1_ : Int32) : Option zMem := Option.bind (L_XPacker_putLowFirst_2 sh zfuel o x0_ x1_ 0 mm) (fun q5 => some (q5.2.2.2.2))
set_option maxHeartbeats 4000000 in
set_option maxRecDepth 100000 in
theorem k_XPacker_putLowFirst (l : Launch) (D : va_G) (tA : Nat → ClassId) (b : Nat) (sh : zSh) (n : Nat) {mm : zMem} {o : Nat} {x0_ : Int32} {x1_ : Int32} {r : zMem} (h : F_XPacker_putLowFirst sh mm o x0_ x1_ = some r) : zM l D tA b zy_XPacker_putLowFirst zb_XPacker_putLowFirst 4 none 1 21 0 0 [.ref (b + o), .int x0_, .int x1_] (zW tA b sh mm) n (zE none (zW tA b sh r) n) := by
  unfold F_XPacker_putLowFirst at h
  refine zM_of (own := "OrreryBox$Packer") (plainFor_of_name (by decide)) rfl (Nat.le_of_ble_eq_true rfl) (fun p e s m below meth c F hr hin hH => ?_)
  refine zr_iconstv (v := 0) F zd_XPacker_putLowFirst_0 (by decide) ?_
  refine zr_istore_n F zd_XPacker_putLowFirst_1 (by decide) ?_
  obtain ⟨q5, eq5, h⟩ := zoB_s h
  refine zr_loc (L' := [(0, .ref (b + o)), (1, .int x0_), (2, .int x1_), (3, .int 0)]) ⟨rfl, rfl, rfl, rfl, trivial⟩ ?_
  refine lp_XPacker_putLowFirst_2 F _ _ _ _ _ _ _ eq5 ?_
  ·
    obtain rfl := Option.some.inj h
    exact zr_vret F hr zd_XPacker_putLowFirst_22 (Nat.le_of_ble_eq_true rfl) (Nat.le_of_ble_eq_true rfl) ⟨rfl, rfl, rfl⟩
abbrev zb_XPicture_keep : ByteArray := prog_6_method_3_code
def zy_XPicture_keep : MethodName := ⟨"OrreryBox$Picture", "keep", "(LOrreryBox$Piece;I)V"⟩
theorem zc_XPicture_keep : Cond.code zy_XPicture_keep zb_XPicture_keep 3 none ∈ gw := gw_t 763 (by decide +kernel) rfl
theorem zq_XPicture_keep : zy_XPicture_keep.cls ≠ "java/lang/invoke/MethodHandle" ∧ zy_XPicture_keep.cls ≠ "java/lang/invoke/VarHandle" ∧ (parseMethodDescriptor zy_XPicture_keep.desc).map (fun d => d.parameters.length) = some 2 := by decide +kernel
theorem zd_XPicture_keep_0 : decode zb_XPicture_keep 0 = .ok (.aload_n 0, 1) := by decide +kernel
theorem zd_XPicture_keep_1 : decode zb_XPicture_keep 1 = .ok (.getfield 62, 3) := by decide +kernel
theorem zd_XPicture_keep_4 : decode zb_XPicture_keep 4 = .ok (.ldc 16, 2) := by decide +kernel
theorem zd_XPicture_keep_6 : decode zb_XPicture_keep 6 = .ok (.if_icmp .ge 39, 3) := by decide +kernel
theorem zd_XPicture_keep_9 : decode zb_XPicture_keep 9 = .ok (.aload_n 1, 1) := by decide +kernel
theorem zd_XPicture_keep_10 : decode zb_XPicture_keep 10 = .ok (.aload_n 0, 1) := by decide +kernel
theorem zd_XPicture_keep_11 : decode zb_XPicture_keep 11 = .ok (.getfield 10, 3) := by decide +kernel
theorem zd_XPicture_keep_14 : decode zb_XPicture_keep 14 = .ok (.bipush 18, 2) := by decide +kernel
theorem zd_XPicture_keep_16 : decode zb_XPicture_keep 16 = .ok (.aload_n 0, 1) := by decide +kernel
theorem zd_XPicture_keep_17 : decode zb_XPicture_keep 17 = .ok (.getfield 62, 3) := by decide +kernel
theorem zd_XPicture_keep_20 : decode zb_XPicture_keep 20 = .ok (.imul, 1) := by decide +kernel
theorem zd_XPicture_keep_21 : decode zb_XPicture_keep 21 = .ok (.invokevirtual 65, 3) := by decide +kernel
theorem zd_XPicture_keep_24 : decode zb_XPicture_keep 24 = .ok (.aload_n 0, 1) := by decide +kernel
theorem zd_XPicture_keep_25 : decode zb_XPicture_keep 25 = .ok (.getfield 17, 3) := by decide +kernel
theorem zd_XPicture_keep_28 : decode zb_XPicture_keep 28 = .ok (.aload_n 0, 1) := by decide +kernel
theorem zd_XPicture_keep_29 : decode zb_XPicture_keep 29 = .ok (.getfield 62, 3) := by decide +kernel
theorem zd_XPicture_keep_32 : decode zb_XPicture_keep 32 = .ok (.iload_n 2, 1) := by decide +kernel
theorem zd_XPicture_keep_33 : decode zb_XPicture_keep 33 = .ok (.i2b, 1) := by decide +kernel
theorem zd_XPicture_keep_34 : decode zb_XPicture_keep 34 = .ok (.bastore, 1) := by decide +kernel
theorem zd_XPicture_keep_35 : decode zb_XPicture_keep 35 = .ok (.aload_n 0, 1) := by decide +kernel
theorem zd_XPicture_keep_36 : decode zb_XPicture_keep 36 = .ok (.dup, 1) := by decide +kernel
theorem zd_XPicture_keep_37 : decode zb_XPicture_keep 37 = .ok (.getfield 62, 3) := by decide +kernel
theorem zd_XPicture_keep_40 : decode zb_XPicture_keep 40 = .ok (.iconst 1, 1) := by decide +kernel
theorem zd_XPicture_keep_41 : decode zb_XPicture_keep 41 = .ok (.iadd, 1) := by decide +kernel
theorem zd_XPicture_keep_42 : decode zb_XPicture_keep 42 = .ok (.putfield 62, 3) := by decide +kernel
theorem zd_XPicture_keep_45 : decode zb_XPicture_keep 45 = .ok (.return_, 1) := by decide +kernel
theorem zw_764 : (Jvm.Cond.methodLink "OrreryBox$Picture" (65 : Nat) ({ cls := "OrreryBox$Piece", name := "keepAt", desc := "([II)V" } : Jvm.MethodName)) ∈ gw := gw_t 764 (by decide +kernel) rfl
theorem zw_765 : (Jvm.Cond.instanceMethod ({ cls := "OrreryBox$Piece", name := "keepAt", desc := "([II)V" } : Jvm.MethodName)) ∈ gw := gw_t 765 (by decide +kernel) rfl
theorem zw_766 : (Jvm.Cond.selects "OrreryBox$Piece" ({ cls := "OrreryBox$Piece", name := "keepAt", desc := "([II)V" } : Jvm.MethodName) ({ cls := "OrreryBox$Piece", name := "keepAt", desc := "([II)V" } : Jvm.MethodName)) ∈ gw := gw_t 766 (by decide +kernel) rfl
theorem zs_XPicture_65 : zwV "OrreryBox$Picture" 65 "OrreryBox$Piece" zy_XPiece_keepAt zb_XPiece_keepAt 3 none := ⟨zw_764, zw_765, zw_766, zw_11, zc_XPiece_keepAt⟩
def F_XPicture_keep (sh : zSh) (mm : zMem) (o : Nat) (x0_ : Nat) (x1_ : Int32) : Option zMem := zoS (sh o) 5 (fun le2 => (if 36864 ≤ (mm.1 o 10) then some mm else zoS (sh o) 5 (fun le5 => Option.bind (mm.2.2 o 8) (fun a6 => zoS (sh o) 5 (fun le8 => zoS (sh x0_) 6 (fun le10 => Option.bind (F_XPiece_keepAt sh mm x0_ a6 (18 * (mm.1 o 10))) (fun p11 => zoS (sh o) 5 (fun le13 => Option.bind (p11.2.2 o 9) (fun a14 => zoS (sh o) 5 (fun le16 => zoL ((x1_ : Int32).toInt8.toInt32) (fun x17 => zoL (p11.1 o 10) (fun i18 => zoS (sh a14) 101 (fun le20 => if (i18 : Int32) < 0 ∨ le20 ≤ (i18 : Int32).toNatClampNeg then none else zoL (mI p11 a14 (i18 : Int32).toNatClampNeg (vp_nar .byte x17)) (fun mm22 => zoS (sh o) 5 (fun le24 => zoL ((mm22.1 o 10) + 1) (fun x25 => zoS (sh o) 5 (fun le27 => zoL (mI mm22 o 10 x25) (fun mm28 => some mm28))))))))))))))))))
set_option maxHeartbeats 4000000 in
set_option maxRecDepth 100000 in
theorem k_XPicture_keep (l : Launch) (D : va_G) (tA : Nat → ClassId) (b : Nat) (sh : zSh) (n : Nat) {mm : zMem} {o : Nat} {x0_ : Nat} {x1_ : Int32} {r : zMem} (h : F_XPicture_keep sh mm o x0_ x1_ = some r) : zM l D tA b zy_XPicture_keep zb_XPicture_keep 3 none 2 82 0 0 [.ref (b + o), .ref (b + x0_), .int x1_] (zW tA b sh mm) n (zE none (zW tA b sh r) n) := by
  unfold F_XPicture_keep at h
  refine zM_of (own := "OrreryBox$Picture") (plainFor_of_name (by decide)) rfl (Nat.le_of_ble_eq_true rfl) (fun p e s m below meth c F hr hin hH => ?_)
  refine zr_aload_n F zd_XPicture_keep_0 rfl ?_
  obtain ⟨le2, hs1, h⟩ := zoS_s h
  refine zr_get F 5 10 zd_XPicture_keep_1 (zW_o hs1 (by decide)) rfl (by decide) zw_443 rfl (by rfl) ?_
  refine zr_ldc F zd_XPicture_keep_4 zw_426 ?_
  refine zr_icmp_ge F 45 zd_XPicture_keep_6 (by decide) (fun hb3 => ?_) (fun hb3 => ?_)
  ·
    rw [if_pos hb3] at h
    obtain rfl := Option.some.inj h
    exact zr_vret F hr zd_XPicture_keep_45 (Nat.le_of_ble_eq_true rfl) (Nat.le_of_ble_eq_true rfl) ⟨rfl, rfl, rfl⟩
  ·
    rw [if_neg hb3] at h
    refine zr_aload_n F zd_XPicture_keep_9 rfl ?_
    refine zr_aload_n F zd_XPicture_keep_10 rfl ?_
    refine zr_pcn 11 rfl ?_
    obtain ⟨le5, hs4, h⟩ := zoS_s h
    obtain ⟨a6, ea6, h⟩ := zoB_s h
    refine zr_get F 5 8 zd_XPicture_keep_11 (zW_o hs4 (by decide)) rfl (by decide) zw_441 rfl (by rfl) ?_
    refine zr_tor ea6 ?_
    refine zr_bipushv (v := 18) F zd_XPicture_keep_14 (by decide) ?_
    refine zr_aload_n F zd_XPicture_keep_16 rfl ?_
    obtain ⟨le8, hs7, h⟩ := zoS_s h
    refine zr_get F 5 10 zd_XPicture_keep_17 (zW_o hs7 (by decide)) rfl (by decide) zw_443 rfl (by rfl) ?_
    refine zr_imul F zd_XPicture_keep_20 ?_
    obtain ⟨le10, hs9, h⟩ := zoS_s h
    obtain ⟨p11, ep11, h⟩ := zoB_s h
    refine zr_callV0 F (k_XPiece_keepAt l D tA b sh _ ep11) zd_XPicture_keep_21 (zW_o hs9 (by decide)) rfl zs_XPicture_65 rfl zq_XPiece_keepAt rfl rfl ⟨(Nat.le_of_ble_eq_true rfl), (Nat.le_of_ble_eq_true rfl)⟩ (Nat.le_of_ble_eq_true rfl) ⟨(Nat.le_of_ble_eq_true rfl), (Nat.le_of_ble_eq_true rfl)⟩ ?_
    refine zr_aload_n F zd_XPicture_keep_24 rfl ?_
    obtain ⟨le13, hs12, h⟩ := zoS_s h
    obtain ⟨a14, ea14, h⟩ := zoB_s h
    refine zr_get F 5 9 zd_XPicture_keep_25 (zW_o hs12 (by decide)) rfl (by decide) zw_442 rfl (by rfl) ?_
    refine zr_tor ea14 ?_
    refine zr_pcn 28 rfl ?_
    refine zr_aload_n F zd_XPicture_keep_28 rfl ?_
    obtain ⟨le16, hs15, h⟩ := zoS_s h
    refine zr_get F 5 10 zd_XPicture_keep_29 (zW_o hs15 (by decide)) rfl (by decide) zw_443 rfl (by rfl) ?_
    refine zr_iload_n F zd_XPicture_keep_32 rfl ?_
    refine zr_i2b F zd_XPicture_keep_33 ?_
    obtain ⟨x17, ex17, h⟩ := zoL_s h
    rw [← ex17]
    obtain ⟨i18, ei18, h⟩ := zoL_s h
    rw [← ei18]
    obtain ⟨le20, hs19, h⟩ := zoS_s h
    obtain ⟨hi21, h⟩ := zoI_s h
    refine zr_bast F zd_XPicture_keep_34 (zW_a1 hs19) hi21 ?_
    obtain ⟨mm22, emm22, h⟩ := zoL_s h
    refine zr_norm (zW tA b sh mm22) _ (by rw [emm22]; exact zW_s1 hs19) rfl ?_
    refine zr_aload_n F zd_XPicture_keep_35 rfl ?_
    refine zr_dup F zd_XPicture_keep_36 rfl ?_
    obtain ⟨le24, hs23, h⟩ := zoS_s h
    refine zr_get F 5 10 zd_XPicture_keep_37 (zW_o hs23 (by decide)) rfl (by decide) zw_443 rfl (by rfl) ?_
    refine zr_pcn 40 rfl ?_
    refine zr_iconstv (v := 1) F zd_XPicture_keep_40 (by decide) ?_
    refine zr_iadd F zd_XPicture_keep_41 ?_
    obtain ⟨x25, ex25, h⟩ := zoL_s h
    rw [← ex25]
    obtain ⟨le27, hs26, h⟩ := zoS_s h
    refine zr_put F 5 10 zd_XPicture_keep_42 (zW_o hs26 (by decide)) rfl (by decide) zw_443 rfl rfl rfl rfl (by exact (Nat.le_of_ble_eq_true rfl)) ?_
    obtain ⟨mm28, emm28, h⟩ := zoL_s h
    refine zr_norm (zW tA b sh mm28) _ (by rw [emm28]; exact zW_pI (v := x25) hs26 (by decide) (zf_I_5_10 b _ _ _)) rfl ?_
    obtain rfl := Option.some.inj h
    exact zr_vret F hr zd_XPicture_keep_45 (Nat.le_of_ble_eq_true rfl) (Nat.le_of_ble_eq_true rfl) ⟨rfl, rfl, rfl⟩
abbrev zb_XPicture_drawPixel : ByteArray := prog_6_method_10_code
def zy_XPicture_drawPixel : MethodName := ⟨"OrreryBox$Picture", "drawPixel", "(I[II)V"⟩
theorem zc_XPicture_drawPixel : Cond.code zy_XPicture_drawPixel zb_XPicture_drawPixel 11 none ∈ gw := gw_t 859 (by decide +kernel) rfl
theorem zq_XPicture_drawPixel : zy_XPicture_drawPixel.cls ≠ "java/lang/invoke/MethodHandle" ∧ zy_XPicture_drawPixel.cls ≠ "java/lang/invoke/VarHandle" ∧ (parseMethodDescriptor zy_XPicture_drawPixel.desc).map (fun d => d.parameters.length) = some 3 := by decide +kernel
theorem zd_XPicture_drawPixel_0 : decode zb_XPicture_drawPixel 0 = .ok (.aload_n 0, 1) := by decide +kernel
theorem zd_XPicture_drawPixel_1 : decode zb_XPicture_drawPixel 1 = .ok (.getfield 24, 3) := by decide +kernel
theorem zd_XPicture_drawPixel_4 : decode zb_XPicture_drawPixel 4 = .ok (.iconst 5, 1) := by decide +kernel
theorem zd_XPicture_drawPixel_5 : decode zb_XPicture_drawPixel 5 = .ok (.invokevirtual 138, 3) := by decide +kernel
theorem zd_XPicture_drawPixel_8 : decode zb_XPicture_drawPixel 8 = .ok (.l2i, 1) := by decide +kernel
theorem zd_XPicture_drawPixel_9 : decode zb_XPicture_drawPixel 9 = .ok (.istore 4, 2) := by decide +kernel
theorem zd_XPicture_drawPixel_11 : decode zb_XPicture_drawPixel 11 = .ok (.aload_n 2, 1) := by decide +kernel
theorem zd_XPicture_drawPixel_12 : decode zb_XPicture_drawPixel 12 = .ok (.iconst 3, 1) := by decide +kernel
theorem zd_XPicture_drawPixel_13 : decode zb_XPicture_drawPixel 13 = .ok (.iaload, 1) := by decide +kernel
theorem zd_XPicture_drawPixel_14 : decode zb_XPicture_drawPixel 14 = .ok (.istore 5, 2) := by decide +kernel
theorem zd_XPicture_drawPixel_16 : decode zb_XPicture_drawPixel 16 = .ok (.aload_n 0, 1) := by decide +kernel
theorem zd_XPicture_drawPixel_17 : decode zb_XPicture_drawPixel 17 = .ok (.getfield 41, 3) := by decide +kernel
theorem zd_XPicture_drawPixel_20 : decode zb_XPicture_drawPixel 20 = .ok (.iload_n 1, 1) := by decide +kernel
theorem zd_XPicture_drawPixel_21 : decode zb_XPicture_drawPixel 21 = .ok (.iaload, 1) := by decide +kernel
theorem zd_XPicture_drawPixel_22 : decode zb_XPicture_drawPixel 22 = .ok (.istore 6, 2) := by decide +kernel
theorem zd_XPicture_drawPixel_24 : decode zb_XPicture_drawPixel 24 = .ok (.iconst 0, 1) := by decide +kernel
theorem zd_XPicture_drawPixel_25 : decode zb_XPicture_drawPixel 25 = .ok (.istore 7, 2) := by decide +kernel
theorem zd_XPicture_drawPixel_27 : decode zb_XPicture_drawPixel 27 = .ok (.iconst 0, 1) := by decide +kernel
theorem zd_XPicture_drawPixel_28 : decode zb_XPicture_drawPixel 28 = .ok (.istore 8, 2) := by decide +kernel
theorem zd_XPicture_drawPixel_30 : decode zb_XPicture_drawPixel 30 = .ok (.iload 8, 2) := by decide +kernel
theorem zd_XPicture_drawPixel_32 : decode zb_XPicture_drawPixel 32 = .ok (.iconst 3, 1) := by decide +kernel
theorem zd_XPicture_drawPixel_33 : decode zb_XPicture_drawPixel 33 = .ok (.if_icmp .ge 90, 3) := by decide +kernel
theorem zd_XPicture_drawPixel_36 : decode zb_XPicture_drawPixel 36 = .ok (.bipush 16, 2) := by decide +kernel
theorem zd_XPicture_drawPixel_38 : decode zb_XPicture_drawPixel 38 = .ok (.bipush 8, 2) := by decide +kernel
theorem zd_XPicture_drawPixel_40 : decode zb_XPicture_drawPixel 40 = .ok (.iload 8, 2) := by decide +kernel
theorem zd_XPicture_drawPixel_42 : decode zb_XPicture_drawPixel 42 = .ok (.imul, 1) := by decide +kernel
theorem zd_XPicture_drawPixel_43 : decode zb_XPicture_drawPixel 43 = .ok (.isub, 1) := by decide +kernel
theorem zd_XPicture_drawPixel_44 : decode zb_XPicture_drawPixel 44 = .ok (.istore 9, 2) := by decide +kernel
theorem zd_XPicture_drawPixel_46 : decode zb_XPicture_drawPixel 46 = .ok (.iload_n 3, 1) := by decide +kernel
theorem zd_XPicture_drawPixel_47 : decode zb_XPicture_drawPixel 47 = .ok (.iload 9, 2) := by decide +kernel
theorem zd_XPicture_drawPixel_49 : decode zb_XPicture_drawPixel 49 = .ok (.ishr, 1) := by decide +kernel
theorem zd_XPicture_drawPixel_50 : decode zb_XPicture_drawPixel 50 = .ok (.sipush 255, 3) := by decide +kernel
theorem zd_XPicture_drawPixel_53 : decode zb_XPicture_drawPixel 53 = .ok (.iand, 1) := by decide +kernel
theorem zd_XPicture_drawPixel_54 : decode zb_XPicture_drawPixel 54 = .ok (.aload_n 2, 1) := by decide +kernel
theorem zd_XPicture_drawPixel_55 : decode zb_XPicture_drawPixel 55 = .ok (.iload 8, 2) := by decide +kernel
theorem zd_XPicture_drawPixel_57 : decode zb_XPicture_drawPixel 57 = .ok (.iaload, 1) := by decide +kernel
theorem zd_XPicture_drawPixel_58 : decode zb_XPicture_drawPixel 58 = .ok (.imul, 1) := by decide +kernel
theorem zd_XPicture_drawPixel_59 : decode zb_XPicture_drawPixel 59 = .ok (.sipush 255, 3) := by decide +kernel
theorem zd_XPicture_drawPixel_62 : decode zb_XPicture_drawPixel 62 = .ok (.idiv, 1) := by decide +kernel
theorem zd_XPicture_drawPixel_63 : decode zb_XPicture_drawPixel 63 = .ok (.iload 4, 2) := by decide +kernel
theorem zd_XPicture_drawPixel_65 : decode zb_XPicture_drawPixel 65 = .ok (.imul, 1) := by decide +kernel
theorem zd_XPicture_drawPixel_66 : decode zb_XPicture_drawPixel 66 = .ok (.bipush 16, 2) := by decide +kernel
theorem zd_XPicture_drawPixel_68 : decode zb_XPicture_drawPixel 68 = .ok (.ishr, 1) := by decide +kernel
theorem zd_XPicture_drawPixel_69 : decode zb_XPicture_drawPixel 69 = .ok (.istore 10, 2) := by decide +kernel
theorem zd_XPicture_drawPixel_71 : decode zb_XPicture_drawPixel 71 = .ok (.iload 5, 2) := by decide +kernel
theorem zd_XPicture_drawPixel_73 : decode zb_XPicture_drawPixel 73 = .ok (.sipush 255, 3) := by decide +kernel
theorem zd_XPicture_drawPixel_76 : decode zb_XPicture_drawPixel 76 = .ok (.if_icmp .ge 31, 3) := by decide +kernel
theorem zd_XPicture_drawPixel_79 : decode zb_XPicture_drawPixel 79 = .ok (.iload 10, 2) := by decide +kernel
theorem zd_XPicture_drawPixel_81 : decode zb_XPicture_drawPixel 81 = .ok (.iload 5, 2) := by decide +kernel
theorem zd_XPicture_drawPixel_83 : decode zb_XPicture_drawPixel 83 = .ok (.imul, 1) := by decide +kernel
theorem zd_XPicture_drawPixel_84 : decode zb_XPicture_drawPixel 84 = .ok (.iload 6, 2) := by decide +kernel
theorem zd_XPicture_drawPixel_86 : decode zb_XPicture_drawPixel 86 = .ok (.iload 9, 2) := by decide +kernel
theorem zd_XPicture_drawPixel_88 : decode zb_XPicture_drawPixel 88 = .ok (.ishr, 1) := by decide +kernel
theorem zd_XPicture_drawPixel_89 : decode zb_XPicture_drawPixel 89 = .ok (.sipush 255, 3) := by decide +kernel
theorem zd_XPicture_drawPixel_92 : decode zb_XPicture_drawPixel 92 = .ok (.iand, 1) := by decide +kernel
theorem zd_XPicture_drawPixel_93 : decode zb_XPicture_drawPixel 93 = .ok (.sipush 255, 3) := by decide +kernel
theorem zd_XPicture_drawPixel_96 : decode zb_XPicture_drawPixel 96 = .ok (.iload 5, 2) := by decide +kernel
theorem zd_XPicture_drawPixel_98 : decode zb_XPicture_drawPixel 98 = .ok (.isub, 1) := by decide +kernel
theorem zd_XPicture_drawPixel_99 : decode zb_XPicture_drawPixel 99 = .ok (.imul, 1) := by decide +kernel
theorem zd_XPicture_drawPixel_100 : decode zb_XPicture_drawPixel 100 = .ok (.iadd, 1) := by decide +kernel
theorem zd_XPicture_drawPixel_101 : decode zb_XPicture_drawPixel 101 = .ok (.sipush 255, 3) := by decide +kernel
theorem zd_XPicture_drawPixel_104 : decode zb_XPicture_drawPixel 104 = .ok (.idiv, 1) := by decide +kernel
theorem zd_XPicture_drawPixel_105 : decode zb_XPicture_drawPixel 105 = .ok (.istore 10, 2) := by decide +kernel
theorem zd_XPicture_drawPixel_107 : decode zb_XPicture_drawPixel 107 = .ok (.iload 7, 2) := by decide +kernel
theorem zd_XPicture_drawPixel_109 : decode zb_XPicture_drawPixel 109 = .ok (.iload 10, 2) := by decide +kernel
theorem zd_XPicture_drawPixel_111 : decode zb_XPicture_drawPixel 111 = .ok (.iload 9, 2) := by decide +kernel
theorem zd_XPicture_drawPixel_113 : decode zb_XPicture_drawPixel 113 = .ok (.ishl, 1) := by decide +kernel
theorem zd_XPicture_drawPixel_114 : decode zb_XPicture_drawPixel 114 = .ok (.ior, 1) := by decide +kernel
theorem zd_XPicture_drawPixel_115 : decode zb_XPicture_drawPixel 115 = .ok (.istore 7, 2) := by decide +kernel
theorem zd_XPicture_drawPixel_117 : decode zb_XPicture_drawPixel 117 = .ok (.iinc 8 1, 3) := by decide +kernel
theorem zd_XPicture_drawPixel_120 : decode zb_XPicture_drawPixel 120 = .ok (.goto (-90), 3) := by decide +kernel
theorem zd_XPicture_drawPixel_123 : decode zb_XPicture_drawPixel 123 = .ok (.aload_n 0, 1) := by decide +kernel
theorem zd_XPicture_drawPixel_124 : decode zb_XPicture_drawPixel 124 = .ok (.getfield 41, 3) := by decide +kernel
theorem zd_XPicture_drawPixel_127 : decode zb_XPicture_drawPixel 127 = .ok (.iload_n 1, 1) := by decide +kernel
theorem zd_XPicture_drawPixel_128 : decode zb_XPicture_drawPixel 128 = .ok (.iload 7, 2) := by decide +kernel
theorem zd_XPicture_drawPixel_130 : decode zb_XPicture_drawPixel 130 = .ok (.iastore, 1) := by decide +kernel
theorem zd_XPicture_drawPixel_131 : decode zb_XPicture_drawPixel 131 = .ok (.iload 5, 2) := by decide +kernel
theorem zd_XPicture_drawPixel_133 : decode zb_XPicture_drawPixel 133 = .ok (.sipush 255, 3) := by decide +kernel
theorem zd_XPicture_drawPixel_136 : decode zb_XPicture_drawPixel 136 = .ok (.if_icmp .ne 17, 3) := by decide +kernel
theorem zd_XPicture_drawPixel_139 : decode zb_XPicture_drawPixel 139 = .ok (.aload_n 0, 1) := by decide +kernel
theorem zd_XPicture_drawPixel_140 : decode zb_XPicture_drawPixel 140 = .ok (.getfield 44, 3) := by decide +kernel
theorem zd_XPicture_drawPixel_143 : decode zb_XPicture_drawPixel 143 = .ok (.iload_n 1, 1) := by decide +kernel
theorem zd_XPicture_drawPixel_144 : decode zb_XPicture_drawPixel 144 = .ok (.aload_n 0, 1) := by decide +kernel
theorem zd_XPicture_drawPixel_145 : decode zb_XPicture_drawPixel 145 = .ok (.getfield 24, 3) := by decide +kernel
theorem zd_XPicture_drawPixel_148 : decode zb_XPicture_drawPixel 148 = .ok (.invokevirtual 134, 3) := by decide +kernel
theorem zd_XPicture_drawPixel_151 : decode zb_XPicture_drawPixel 151 = .ok (.l2i, 1) := by decide +kernel
theorem zd_XPicture_drawPixel_152 : decode zb_XPicture_drawPixel 152 = .ok (.iastore, 1) := by decide +kernel
theorem zd_XPicture_drawPixel_153 : decode zb_XPicture_drawPixel 153 = .ok (.return_, 1) := by decide +kernel
theorem zw_835 : (Jvm.Cond.methodLink "OrreryBox$Picture" (138 : Nat) ({ cls := "OrreryBox$Piece", name := "mixed", desc := "(I)J" } : Jvm.MethodName)) ∈ gw := gw_t 835 (by decide +kernel) rfl
theorem zw_836 : (Jvm.Cond.instanceMethod ({ cls := "OrreryBox$Piece", name := "mixed", desc := "(I)J" } : Jvm.MethodName)) ∈ gw := gw_t 836 (by decide +kernel) rfl
theorem zw_837 : (Jvm.Cond.selects "OrreryBox$Piece" ({ cls := "OrreryBox$Piece", name := "mixed", desc := "(I)J" } : Jvm.MethodName) ({ cls := "OrreryBox$Piece", name := "mixed", desc := "(I)J" } : Jvm.MethodName)) ∈ gw := gw_t 837 (by decide +kernel) rfl
theorem zs_XPicture_138 : zwV "OrreryBox$Picture" 138 "OrreryBox$Piece" zy_XPiece_mixed zb_XPiece_mixed 2 (some .long) := ⟨zw_835, zw_836, zw_837, zw_11, zc_XPiece_mixed⟩
def L_XPicture_drawPixel_30 (sh : zSh) (fuel : Nat) (v0 : Nat) (v1 : Int32) (v2 : Nat) (v3 : Int32) (v4 : Int32) (v5 : Int32) (v6 : Int32) (v7 : Int32) (v8 : Int32) (mm : zMem) : Option (Nat × Int32 × Nat × Int32 × Int32 × Int32 × Int32 × Int32 × Int32 × zMem) := match fuel with
  | 0 => none
  | fu + 1 => (if 3 ≤ v8 then some (v0, v1, v2, v3, v4, v5, v6, v7, v8, mm) else zoL (16 - (8 * v8)) (fun x20 => zoS (sh v2) 100 (fun le22 => if (v8 : Int32) < 0 ∨ le22 ≤ (v8 : Int32).toNatClampNeg then none else zoL ((((((v3 >>> (x20 &&& 31)) &&& 255) * (mm.1 v2 (v8 : Int32).toNatClampNeg)) / 255) * v4) >>> (16 &&& 31)) (fun x24 => (if 255 ≤ v5 then zoL (v7 ||| (x24 <<< (x20 &&& 31))) (fun x26 => L_XPicture_drawPixel_30 sh fu v0 v1 v2 v3 v4 v5 v6 x26 (v8 + 1) mm) else zoL (((x24 * v5) + (((v6 >>> (x20 &&& 31)) &&& 255) * (255 - v5))) / 255) (fun x27 => zoL (v7 ||| (x27 <<< (x20 &&& 31))) (fun x28 => L_XPicture_drawPixel_30 sh fu v0 v1 v2 v3 v4 v5 v6 x28 (v8 + 1) mm)))))))
set_option maxHeartbeats 4000000 in
set_option maxRecDepth 100000 in
theorem lp_XPicture_drawPixel_30 {p : Program} {l : Launch} {e : Env} {s : State} {m : MethodId} {args : Array Value} {below : List Frame} {meth : Method} {c : Code} {D : va_G} {tA : Nat → ClassId} {b n : Nat} {post : Option Value → zV → Nat → Prop} {sh : zSh} (F : zF p s m args meth c zb_XPicture_drawPixel 11 "OrreryBox$Picture" D tA b) : ∀ (fuel : Nat) (v0 : Nat) (v1 : Int32) (v2 : Nat) (v3 : Int32) (v4 : Int32) (v5 : Int32) (v6 : Int32) (v7 : Int32) (v8 : Int32) (mm : zMem) (r : Nat × Int32 × Nat × Int32 × Int32 × Int32 × Int32 × Int32 × Int32 × zMem), L_XPicture_drawPixel_30 sh fuel v0 v1 v2 v3 v4 v5 v6 v7 v8 mm = some r → (Z p l e { frames := 3, cells := 0, slots := 0, locals := 69 } s m args below meth c D b 11 (MQ below (zQ D b post) args s 0 0 (fun q => b ≤ q)) (zW tA b sh r.2.2.2.2.2.2.2.2.2) n 0 0 123 [(0, .ref (b + (r.1))), (1, .int (r.2.1)), (2, .ref (b + (r.2.2.1))), (3, .int (r.2.2.2.1)), (4, .int (r.2.2.2.2.1)), (5, .int (r.2.2.2.2.2.1)), (6, .int (r.2.2.2.2.2.2.1)), (7, .int (r.2.2.2.2.2.2.2.1)), (8, .int (r.2.2.2.2.2.2.2.2.1))] []) → Z p l e { frames := 3, cells := 0, slots := 0, locals := 69 } s m args below meth c D b 11 (MQ below (zQ D b post) args s 0 0 (fun q => b ≤ q)) (zW tA b sh mm) n 0 0 30 [(0, .ref (b + v0)), (1, .int v1), (2, .ref (b + v2)), (3, .int v3), (4, .int v4), (5, .int v5), (6, .int v6), (7, .int v7), (8, .int v8)] [] := by
  intro fuel
  induction fuel with
  | zero =>
    intro v0 v1 v2 v3 v4 v5 v6 v7 v8 mm r h
    cases h
  | succ fu ih =>
    intro v0 v1 v2 v3 v4 v5 v6 v7 v8 mm r h hx0
    rw [L_XPicture_drawPixel_30] at h
    refine zr_iload F zd_XPicture_drawPixel_30 rfl ?_
    refine zr_iconstv (v := 3) F zd_XPicture_drawPixel_32 (by decide) ?_
    refine zr_icmp_ge F 123 zd_XPicture_drawPixel_33 (by decide) (fun hb19 => ?_) (fun hb19 => ?_)
    ·
      rw [if_pos hb19] at h
      obtain rfl := Option.some.inj h
      refine zr_loc (L' := [(0, .ref (b + v0)), (1, .int v1), (2, .ref (b + v2)), (3, .int v3), (4, .int v4), (5, .int v5), (6, .int v6), (7, .int v7), (8, .int v8)]) ⟨rfl, rfl, rfl, rfl, rfl, rfl, rfl, rfl, rfl, trivial⟩ ?_
      exact hx0 
    ·
      rw [if_neg hb19] at h
      refine zr_bipushv (v := 16) F zd_XPicture_drawPixel_36 (by decide) ?_
      refine zr_pcn 38 rfl ?_
      refine zr_bipushv (v := 8) F zd_XPicture_drawPixel_38 (by decide) ?_
      refine zr_iload F zd_XPicture_drawPixel_40 rfl ?_
      refine zr_imul F zd_XPicture_drawPixel_42 ?_
      refine zr_isub F zd_XPicture_drawPixel_43 ?_
      obtain ⟨x20, ex20, h⟩ := zoL_s h
      rw [← ex20]
      refine zr_istore F zd_XPicture_drawPixel_44 (by decide) ?_
      refine zr_iload_n F zd_XPicture_drawPixel_46 rfl ?_
      refine zr_iload F zd_XPicture_drawPixel_47 rfl ?_
      refine zr_ishr F zd_XPicture_drawPixel_49 ?_
      refine zr_pcn 50 rfl ?_
      refine zr_sipushv (v := 255) F zd_XPicture_drawPixel_50 (by decide) ?_
      refine zr_iand F zd_XPicture_drawPixel_53 ?_
      refine zr_aload_n F zd_XPicture_drawPixel_54 rfl ?_
      refine zr_iload F zd_XPicture_drawPixel_55 rfl ?_
      obtain ⟨le22, hs21, h⟩ := zoS_s h
      obtain ⟨hi23, h⟩ := zoI_s h
      refine zr_iald F zd_XPicture_drawPixel_57 (zW_a0 hs21) hi23 ?_
      refine zr_imul F zd_XPicture_drawPixel_58 ?_
      refine zr_sipushv (v := 255) F zd_XPicture_drawPixel_59 (by decide) ?_
      refine zr_idiv F zd_XPicture_drawPixel_62 (by decide) ?_
      refine zr_pcn 63 rfl ?_
      refine zr_iload F zd_XPicture_drawPixel_63 rfl ?_
      refine zr_imul F zd_XPicture_drawPixel_65 ?_
      refine zr_bipushv (v := 16) F zd_XPicture_drawPixel_66 (by decide) ?_
      refine zr_ishr F zd_XPicture_drawPixel_68 ?_
      obtain ⟨x24, ex24, h⟩ := zoL_s h
      rw [← ex24]
      refine zr_istore F zd_XPicture_drawPixel_69 (by decide) ?_
      refine zr_iload F zd_XPicture_drawPixel_71 rfl ?_
      refine zr_sipushv (v := 255) F zd_XPicture_drawPixel_73 (by decide) ?_
      refine zr_icmp_ge F 107 zd_XPicture_drawPixel_76 (by decide) (fun hb25 => ?_) (fun hb25 => ?_)
      ·
        rw [if_pos hb25] at h
        refine zr_pcn 107 rfl ?_
        refine zr_iload F zd_XPicture_drawPixel_107 rfl ?_
        refine zr_iload F zd_XPicture_drawPixel_109 rfl ?_
        refine zr_iload F zd_XPicture_drawPixel_111 rfl ?_
        refine zr_ishl F zd_XPicture_drawPixel_113 ?_
        refine zr_ior F zd_XPicture_drawPixel_114 ?_
        obtain ⟨x26, ex26, h⟩ := zoL_s h
        rw [← ex26]
        refine zr_istore F zd_XPicture_drawPixel_115 (by decide) ?_
        refine zr_iinc (v := (v8 + 1)) F zd_XPicture_drawPixel_117 rfl rfl (by decide) ?_
        refine zr_goto F 30 zd_XPicture_drawPixel_120 (by decide) ?_
        refine zr_loc (L' := [(0, .ref (b + v0)), (1, .int v1), (2, .ref (b + v2)), (3, .int v3), (4, .int v4), (5, .int v5), (6, .int v6), (7, .int x26), (8, .int (v8 + 1))]) ⟨rfl, rfl, rfl, rfl, rfl, rfl, rfl, rfl, rfl, trivial⟩ ?_
        exact ih _ _ _ _ _ _ _ _ _ _ _ h hx0
      ·
        rw [if_neg hb25] at h
        refine zr_pcn 79 rfl ?_
        refine zr_iload F zd_XPicture_drawPixel_79 rfl ?_
        refine zr_iload F zd_XPicture_drawPixel_81 rfl ?_
        refine zr_imul F zd_XPicture_drawPixel_83 ?_
        refine zr_iload F zd_XPicture_drawPixel_84 rfl ?_
        refine zr_iload F zd_XPicture_drawPixel_86 rfl ?_
        refine zr_ishr F zd_XPicture_drawPixel_88 ?_
        refine zr_sipushv (v := 255) F zd_XPicture_drawPixel_89 (by decide) ?_
        refine zr_iand F zd_XPicture_drawPixel_92 ?_
        refine zr_pcn 93 rfl ?_
        refine zr_sipushv (v := 255) F zd_XPicture_drawPixel_93 (by decide) ?_
        refine zr_iload F zd_XPicture_drawPixel_96 rfl ?_
        refine zr_isub F zd_XPicture_drawPixel_98 ?_
        refine zr_imul F zd_XPicture_drawPixel_99 ?_
        refine zr_iadd F zd_XPicture_drawPixel_100 ?_
        refine zr_sipushv (v := 255) F zd_XPicture_drawPixel_101 (by decide) ?_
        refine zr_idiv F zd_XPicture_drawPixel_104 (by decide) ?_
        obtain ⟨x27, ex27, h⟩ := zoL_s h
        rw [← ex27]
        refine zr_istore F zd_XPicture_drawPixel_105 (by decide) ?_
        refine zr_pcn 107 rfl ?_
        refine zr_iload F zd_XPicture_drawPixel_107 rfl ?_
        refine zr_iload F zd_XPicture_drawPixel_109 rfl ?_
        refine zr_iload F zd_XPicture_drawPixel_111 rfl ?_
        refine zr_ishl F zd_XPicture_drawPixel_113 ?_
        refine zr_ior F zd_XPicture_drawPixel_114 ?_
        obtain ⟨x28, ex28, h⟩ := zoL_s h
        rw [← ex28]
        refine zr_istore F zd_XPicture_drawPixel_115 (by decide) ?_
        refine zr_iinc (v := (v8 + 1)) F zd_XPicture_drawPixel_117 rfl rfl (by decide) ?_
        refine zr_goto F 30 zd_XPicture_drawPixel_120 (by decide) ?_
        refine zr_loc (L' := [(0, .ref (b + v0)), (1, .int v1), (2, .ref (b + v2)), (3, .int v3), (4, .int v4), (5, .int v5), (6, .int v6), (7, .int x28), (8, .int (v8 + 1))]) ⟨rfl, rfl, rfl, rfl, rfl, rfl, rfl, rfl, rfl, trivial⟩ ?_
        exact ih _ _ _ _ _ _ _ _ _ _ _ h hx0
theorem zw_829 : (Jvm.Cond.methodLink "OrreryBox$Picture" (134 : Nat) ({ cls := "OrreryBox$Piece", name := "near", desc := "()J" } : Jvm.MethodName)) ∈ gw := gw_t 829 (by decide +kernel) rfl
theorem zw_830 : (Jvm.Cond.instanceMethod ({ cls := "OrreryBox$Piece", name := "near", desc := "()J" } : Jvm.MethodName)) ∈ gw := gw_t 830 (by decide +kernel) rfl
theorem zw_831 : (Jvm.Cond.selects "OrreryBox$Piece" ({ cls := "OrreryBox$Piece", name := "near", desc := "()J" } : Jvm.MethodName) ({ cls := "OrreryBox$Piece", name := "near", desc := "()J" } : Jvm.MethodName)) ∈ gw := gw_t 831 (by decide +kernel) rfl
theorem zs_XPicture_134 : zwV "OrreryBox$Picture" 134 "OrreryBox$Piece" zy_XPiece_near zb_XPiece_near 1 (some .long) := ⟨zw_829, zw_830, zw_831, zw_11, zc_XPiece_near⟩
def F_XPicture_drawPixel (sh : zSh) (mm : zMem) (o : Nat) (x0_ : Int32) (x1_ : Nat) (x2_ : Int32) : Option zMem := zoS (sh o) 5 (fun le2 => Option.bind (mm.2.2 o 11) (fun a3 => zoS (sh a3) 6 (fun le5 => Option.bind (F_XPiece_mixed sh mm a3 5) (fun p6 => zoL ((p6.1 : Int64).toInt32) (fun x7 => zoS (sh x1_) 100 (fun le9 => if (3 : Int32) < 0 ∨ le9 ≤ (3 : Int32).toNatClampNeg then none else zoL ((p6.2).1 x1_ (3 : Int32).toNatClampNeg) (fun x11 => zoS (sh o) 5 (fun le13 => Option.bind ((p6.2).2.2 o 1) (fun a14 => zoS (sh a14) 100 (fun le16 => if (x0_ : Int32) < 0 ∨ le16 ≤ (x0_ : Int32).toNatClampNeg then none else zoL ((p6.2).1 a14 (x0_ : Int32).toNatClampNeg) (fun x18 => Option.bind (L_XPicture_drawPixel_30 sh zfuel o x0_ x1_ x2_ x7 x11 x18 0 0 (p6.2)) (fun q29 => zoS (sh (q29.1)) 5 (fun le31 => Option.bind ((q29.2.2.2.2.2.2.2.2.2).2.2 (q29.1) 1) (fun a32 => zoS (sh a32) 100 (fun le34 => if (q29.2.1 : Int32) < 0 ∨ le34 ≤ (q29.2.1 : Int32).toNatClampNeg then none else zoL (mI (q29.2.2.2.2.2.2.2.2.2) a32 (q29.2.1 : Int32).toNatClampNeg (q29.2.2.2.2.2.2.2.1)) (fun mm36 => (if q29.2.2.2.2.2.1 = 255 then zoS (sh (q29.1)) 5 (fun le39 => Option.bind (mm36.2.2 (q29.1) 2) (fun a40 => zoS (sh (q29.1)) 5 (fun le42 => Option.bind (mm36.2.2 (q29.1) 11) (fun a43 => zoS (sh a43) 6 (fun le45 => Option.bind (F_XPiece_near sh mm36 a43) (fun p46 => zoL ((p46.1 : Int64).toInt32) (fun x47 => zoS (sh a40) 100 (fun le49 => if (q29.2.1 : Int32) < 0 ∨ le49 ≤ (q29.2.1 : Int32).toNatClampNeg then none else zoL (mI (p46.2) a40 (q29.2.1 : Int32).toNatClampNeg x47) (fun mm51 => some mm51))))))))) else some mm36)))))))))))))))))
set_option maxHeartbeats 4000000 in
set_option maxRecDepth 100000 in
theorem k_XPicture_drawPixel (l : Launch) (D : va_G) (tA : Nat → ClassId) (b : Nat) (sh : zSh) (n : Nat) {mm : zMem} {o : Nat} {x0_ : Int32} {x1_ : Nat} {x2_ : Int32} {r : zMem} (h : F_XPicture_drawPixel sh mm o x0_ x1_ x2_ = some r) : zM l D tA b zy_XPicture_drawPixel zb_XPicture_drawPixel 11 none 3 69 0 0 [.ref (b + o), .int x0_, .ref (b + x1_), .int x2_] (zW tA b sh mm) n (zE none (zW tA b sh r) n) := by
  unfold F_XPicture_drawPixel at h
  refine zM_of (own := "OrreryBox$Picture") (plainFor_of_name (by decide)) rfl (Nat.le_of_ble_eq_true rfl) (fun p e s m below meth c F hr hin hH => ?_)
  refine zr_aload_n F zd_XPicture_drawPixel_0 rfl ?_
  obtain ⟨le2, hs1, h⟩ := zoS_s h
  obtain ⟨a3, ea3, h⟩ := zoB_s h
  refine zr_get F 5 11 zd_XPicture_drawPixel_1 (zW_o hs1 (by decide)) rfl (by decide) zw_444 rfl (by rfl) ?_
  refine zr_tor ea3 ?_
  refine zr_iconstv (v := 5) F zd_XPicture_drawPixel_4 (by decide) ?_
  obtain ⟨le5, hs4, h⟩ := zoS_s h
  obtain ⟨p6, ep6, h⟩ := zoB_s h
  refine zr_callV1 F (k_XPiece_mixed l D tA b sh _ ep6) zd_XPicture_drawPixel_5 (zW_o hs4 (by decide)) rfl zs_XPicture_138 rfl zq_XPiece_mixed rfl rfl ⟨(Nat.le_of_ble_eq_true rfl), (Nat.le_of_ble_eq_true rfl)⟩ (Nat.le_of_ble_eq_true rfl) ⟨(Nat.le_of_ble_eq_true rfl), (Nat.le_of_ble_eq_true rfl)⟩ ?_
  refine zr_l2i F zd_XPicture_drawPixel_8 ?_
  obtain ⟨x7, ex7, h⟩ := zoL_s h
  rw [← ex7]
  refine zr_istore F zd_XPicture_drawPixel_9 (by decide) ?_
  refine zr_aload_n F zd_XPicture_drawPixel_11 rfl ?_
  refine zr_pcn 12 rfl ?_
  refine zr_iconstv (v := 3) F zd_XPicture_drawPixel_12 (by decide) ?_
  obtain ⟨le9, hs8, h⟩ := zoS_s h
  obtain ⟨hi10, h⟩ := zoI_s h
  refine zr_iald F zd_XPicture_drawPixel_13 (zW_a0 hs8) hi10 ?_
  obtain ⟨x11, ex11, h⟩ := zoL_s h
  rw [← ex11]
  refine zr_istore F zd_XPicture_drawPixel_14 (by decide) ?_
  refine zr_aload_n F zd_XPicture_drawPixel_16 rfl ?_
  obtain ⟨le13, hs12, h⟩ := zoS_s h
  obtain ⟨a14, ea14, h⟩ := zoB_s h
  refine zr_get F 5 1 zd_XPicture_drawPixel_17 (zW_o hs12 (by decide)) rfl (by decide) zw_431 rfl (by rfl) ?_
  refine zr_tor ea14 ?_
  refine zr_iload_n F zd_XPicture_drawPixel_20 rfl ?_
  obtain ⟨le16, hs15, h⟩ := zoS_s h
  obtain ⟨hi17, h⟩ := zoI_s h
  refine zr_iald F zd_XPicture_drawPixel_21 (zW_a0 hs15) hi17 ?_
  obtain ⟨x18, ex18, h⟩ := zoL_s h
  rw [← ex18]
  refine zr_istore F zd_XPicture_drawPixel_22 (by decide) ?_
  refine zr_pcn 24 rfl ?_
  refine zr_iconstv (v := 0) F zd_XPicture_drawPixel_24 (by decide) ?_
  refine zr_istore F zd_XPicture_drawPixel_25 (by decide) ?_
  refine zr_iconstv (v := 0) F zd_XPicture_drawPixel_27 (by decide) ?_
  refine zr_istore F zd_XPicture_drawPixel_28 (by decide) ?_
  obtain ⟨q29, eq29, h⟩ := zoB_s h
  refine zr_loc (L' := [(0, .ref (b + o)), (1, .int x0_), (2, .ref (b + x1_)), (3, .int x2_), (4, .int x7), (5, .int x11), (6, .int x18), (7, .int 0), (8, .int 0)]) ⟨rfl, rfl, rfl, rfl, rfl, rfl, rfl, rfl, rfl, trivial⟩ ?_
  refine lp_XPicture_drawPixel_30 F _ _ _ _ _ _ _ _ _ _ _ _ eq29 ?_
  ·
    refine zr_pcn 123 rfl ?_
    refine zr_aload_n F zd_XPicture_drawPixel_123 rfl ?_
    obtain ⟨le31, hs30, h⟩ := zoS_s h
    obtain ⟨a32, ea32, h⟩ := zoB_s h
    refine zr_get F 5 1 zd_XPicture_drawPixel_124 (zW_o hs30 (by decide)) rfl (by decide) zw_431 rfl (by rfl) ?_
    refine zr_tor ea32 ?_
    refine zr_iload_n F zd_XPicture_drawPixel_127 rfl ?_
    refine zr_iload F zd_XPicture_drawPixel_128 rfl ?_
    obtain ⟨le34, hs33, h⟩ := zoS_s h
    obtain ⟨hi35, h⟩ := zoI_s h
    refine zr_iast F zd_XPicture_drawPixel_130 (zW_a0 hs33) hi35 ?_
    obtain ⟨mm36, emm36, h⟩ := zoL_s h
    refine zr_norm (zW tA b sh mm36) _ (by rw [emm36]; exact zW_s0 hs33) rfl ?_
    refine zr_iload F zd_XPicture_drawPixel_131 rfl ?_
    refine zr_sipushv (v := 255) F zd_XPicture_drawPixel_133 (by decide) ?_
    refine zr_icmp_ne F 153 zd_XPicture_drawPixel_136 (by decide) (fun hb37 => ?_) (fun hb37 => ?_)
    ·
      rw [if_neg hb37] at h
      refine zr_pcn 153 rfl ?_
      obtain rfl := Option.some.inj h
      exact zr_vret F hr zd_XPicture_drawPixel_153 (Nat.le_of_ble_eq_true rfl) (Nat.le_of_ble_eq_true rfl) ⟨rfl, rfl, rfl⟩
    ·
      rw [if_pos hb37] at h
      refine zr_aload_n F zd_XPicture_drawPixel_139 rfl ?_
      obtain ⟨le39, hs38, h⟩ := zoS_s h
      obtain ⟨a40, ea40, h⟩ := zoB_s h
      refine zr_get F 5 2 zd_XPicture_drawPixel_140 (zW_o hs38 (by decide)) rfl (by decide) zw_433 rfl (by rfl) ?_
      refine zr_tor ea40 ?_
      refine zr_iload_n F zd_XPicture_drawPixel_143 rfl ?_
      refine zr_aload_n F zd_XPicture_drawPixel_144 rfl ?_
      obtain ⟨le42, hs41, h⟩ := zoS_s h
      obtain ⟨a43, ea43, h⟩ := zoB_s h
      refine zr_get F 5 11 zd_XPicture_drawPixel_145 (zW_o hs41 (by decide)) rfl (by decide) zw_444 rfl (by rfl) ?_
      refine zr_tor ea43 ?_
      obtain ⟨le45, hs44, h⟩ := zoS_s h
      obtain ⟨p46, ep46, h⟩ := zoB_s h
      refine zr_callV1 F (k_XPiece_near l D tA b sh _ ep46) zd_XPicture_drawPixel_148 (zW_o hs44 (by decide)) rfl zs_XPicture_134 rfl zq_XPiece_near rfl rfl ⟨(Nat.le_of_ble_eq_true rfl), (Nat.le_of_ble_eq_true rfl)⟩ (Nat.le_of_ble_eq_true rfl) ⟨(Nat.le_of_ble_eq_true rfl), (Nat.le_of_ble_eq_true rfl)⟩ ?_
      refine zr_l2i F zd_XPicture_drawPixel_151 ?_
      refine zr_pcn 152 rfl ?_
      obtain ⟨x47, ex47, h⟩ := zoL_s h
      rw [← ex47]
      obtain ⟨le49, hs48, h⟩ := zoS_s h
      obtain ⟨hi50, h⟩ := zoI_s h
      refine zr_iast F zd_XPicture_drawPixel_152 (zW_a0 hs48) hi50 ?_
      obtain ⟨mm51, emm51, h⟩ := zoL_s h
      refine zr_norm (zW tA b sh mm51) _ (by rw [emm51]; exact zW_s0 hs48) rfl ?_
      obtain rfl := Option.some.inj h
      exact zr_vret F hr zd_XPicture_drawPixel_153 (Nat.le_of_ble_eq_true rfl) (Nat.le_of_ble_eq_true rfl) ⟨rfl, rfl, rfl⟩
abbrev zb_XPiece_take : ByteArray := prog_7_method_2_code
def zy_XPiece_take : MethodName := ⟨"OrreryBox$Piece", "take", "([IIZ)Z"⟩
theorem zc_XPiece_take : Cond.code zy_XPiece_take zb_XPiece_take 4 (some .boolean) ∈ gw := gw_t 753 (by decide +kernel) rfl
theorem zq_XPiece_take : zy_XPiece_take.cls ≠ "java/lang/invoke/MethodHandle" ∧ zy_XPiece_take.cls ≠ "java/lang/invoke/VarHandle" ∧ (parseMethodDescriptor zy_XPiece_take.desc).map (fun d => d.parameters.length) = some 3 := by decide +kernel
theorem zd_XPiece_take_0 : decode zb_XPiece_take 0 = .ok (.aload_n 1, 1) := by decide +kernel
theorem zd_XPiece_take_1 : decode zb_XPiece_take 1 = .ok (.iconst 0, 1) := by decide +kernel
theorem zd_XPiece_take_2 : decode zb_XPiece_take 2 = .ok (.aload_n 0, 1) := by decide +kernel
theorem zd_XPiece_take_3 : decode zb_XPiece_take 3 = .ok (.getfield 9, 3) := by decide +kernel
theorem zd_XPiece_take_6 : decode zb_XPiece_take 6 = .ok (.iconst 0, 1) := by decide +kernel
theorem zd_XPiece_take_7 : decode zb_XPiece_take 7 = .ok (.bipush 6, 2) := by decide +kernel
theorem zd_XPiece_take_9 : decode zb_XPiece_take 9 = .ok (.invokestatic 15, 3) := by decide +kernel
theorem zd_XPiece_take_12 : decode zb_XPiece_take 12 = .ok (.aload_n 1, 1) := by decide +kernel
theorem zd_XPiece_take_13 : decode zb_XPiece_take 13 = .ok (.bipush 6, 2) := by decide +kernel
theorem zd_XPiece_take_15 : decode zb_XPiece_take 15 = .ok (.iload_n 2, 1) := by decide +kernel
theorem zd_XPiece_take_16 : decode zb_XPiece_take 16 = .ok (.imul, 1) := by decide +kernel
theorem zd_XPiece_take_17 : decode zb_XPiece_take 17 = .ok (.aload_n 0, 1) := by decide +kernel
theorem zd_XPiece_take_18 : decode zb_XPiece_take 18 = .ok (.getfield 9, 3) := by decide +kernel
theorem zd_XPiece_take_21 : decode zb_XPiece_take 21 = .ok (.bipush 6, 2) := by decide +kernel
theorem zd_XPiece_take_23 : decode zb_XPiece_take 23 = .ok (.bipush 12, 2) := by decide +kernel
theorem zd_XPiece_take_25 : decode zb_XPiece_take 25 = .ok (.invokestatic 15, 3) := by decide +kernel
theorem zd_XPiece_take_28 : decode zb_XPiece_take 28 = .ok (.aload_n 0, 1) := by decide +kernel
theorem zd_XPiece_take_29 : decode zb_XPiece_take 29 = .ok (.aload_n 0, 1) := by decide +kernel
theorem zd_XPiece_take_30 : decode zb_XPiece_take 30 = .ok (.iconst 0, 1) := by decide +kernel
theorem zd_XPiece_take_31 : decode zb_XPiece_take 31 = .ok (.iconst 1, 1) := by decide +kernel
theorem zd_XPiece_take_32 : decode zb_XPiece_take 32 = .ok (.invokevirtual 21, 3) := by decide +kernel
theorem zd_XPiece_take_35 : decode zb_XPiece_take 35 = .ok (.putfield 25, 3) := by decide +kernel
theorem zd_XPiece_take_38 : decode zb_XPiece_take 38 = .ok (.aload_n 0, 1) := by decide +kernel
theorem zd_XPiece_take_39 : decode zb_XPiece_take 39 = .ok (.getfield 25, 3) := by decide +kernel
theorem zd_XPiece_take_42 : decode zb_XPiece_take 42 = .ok (.lconst 0, 1) := by decide +kernel
theorem zd_XPiece_take_43 : decode zb_XPiece_take 43 = .ok (.lcmp, 1) := by decide +kernel
theorem zd_XPiece_take_44 : decode zb_XPiece_take 44 = .ok (.ifCond .ge 50, 3) := by decide +kernel
theorem zd_XPiece_take_47 : decode zb_XPiece_take 47 = .ok (.iload_n 3, 1) := by decide +kernel
theorem zd_XPiece_take_48 : decode zb_XPiece_take 48 = .ok (.ifCond .eq 46, 3) := by decide +kernel
theorem zd_XPiece_take_51 : decode zb_XPiece_take 51 = .ok (.aload_n 1, 1) := by decide +kernel
theorem zd_XPiece_take_52 : decode zb_XPiece_take 52 = .ok (.bipush 6, 2) := by decide +kernel
theorem zd_XPiece_take_54 : decode zb_XPiece_take 54 = .ok (.iload_n 2, 1) := by decide +kernel
theorem zd_XPiece_take_55 : decode zb_XPiece_take 55 = .ok (.imul, 1) := by decide +kernel
theorem zd_XPiece_take_56 : decode zb_XPiece_take 56 = .ok (.aload_n 0, 1) := by decide +kernel
theorem zd_XPiece_take_57 : decode zb_XPiece_take 57 = .ok (.getfield 9, 3) := by decide +kernel
theorem zd_XPiece_take_60 : decode zb_XPiece_take 60 = .ok (.bipush 12, 2) := by decide +kernel
theorem zd_XPiece_take_62 : decode zb_XPiece_take 62 = .ok (.bipush 6, 2) := by decide +kernel
theorem zd_XPiece_take_64 : decode zb_XPiece_take 64 = .ok (.invokestatic 15, 3) := by decide +kernel
theorem zd_XPiece_take_67 : decode zb_XPiece_take 67 = .ok (.aload_n 1, 1) := by decide +kernel
theorem zd_XPiece_take_68 : decode zb_XPiece_take 68 = .ok (.bipush 6, 2) := by decide +kernel
theorem zd_XPiece_take_70 : decode zb_XPiece_take 70 = .ok (.iload_n 2, 1) := by decide +kernel
theorem zd_XPiece_take_71 : decode zb_XPiece_take 71 = .ok (.iconst 1, 1) := by decide +kernel
theorem zd_XPiece_take_72 : decode zb_XPiece_take 72 = .ok (.iadd, 1) := by decide +kernel
theorem zd_XPiece_take_73 : decode zb_XPiece_take 73 = .ok (.imul, 1) := by decide +kernel
theorem zd_XPiece_take_74 : decode zb_XPiece_take 74 = .ok (.aload_n 0, 1) := by decide +kernel
theorem zd_XPiece_take_75 : decode zb_XPiece_take 75 = .ok (.getfield 9, 3) := by decide +kernel
theorem zd_XPiece_take_78 : decode zb_XPiece_take 78 = .ok (.bipush 6, 2) := by decide +kernel
theorem zd_XPiece_take_80 : decode zb_XPiece_take 80 = .ok (.bipush 6, 2) := by decide +kernel
theorem zd_XPiece_take_82 : decode zb_XPiece_take 82 = .ok (.invokestatic 15, 3) := by decide +kernel
theorem zd_XPiece_take_85 : decode zb_XPiece_take 85 = .ok (.aload_n 0, 1) := by decide +kernel
theorem zd_XPiece_take_86 : decode zb_XPiece_take 86 = .ok (.aload_n 0, 1) := by decide +kernel
theorem zd_XPiece_take_87 : decode zb_XPiece_take 87 = .ok (.getfield 25, 3) := by decide +kernel
theorem zd_XPiece_take_90 : decode zb_XPiece_take 90 = .ok (.lneg, 1) := by decide +kernel
theorem zd_XPiece_take_91 : decode zb_XPiece_take 91 = .ok (.putfield 25, 3) := by decide +kernel
theorem zd_XPiece_take_94 : decode zb_XPiece_take 94 = .ok (.aload_n 0, 1) := by decide +kernel
theorem zd_XPiece_take_95 : decode zb_XPiece_take 95 = .ok (.getfield 25, 3) := by decide +kernel
theorem zd_XPiece_take_98 : decode zb_XPiece_take 98 = .ok (.lconst 0, 1) := by decide +kernel
theorem zd_XPiece_take_99 : decode zb_XPiece_take 99 = .ok (.lcmp, 1) := by decide +kernel
theorem zd_XPiece_take_100 : decode zb_XPiece_take 100 = .ok (.ifCond .le 7, 3) := by decide +kernel
theorem zd_XPiece_take_103 : decode zb_XPiece_take 103 = .ok (.iconst 1, 1) := by decide +kernel
theorem zd_XPiece_take_104 : decode zb_XPiece_take 104 = .ok (.goto 4, 3) := by decide +kernel
theorem zd_XPiece_take_107 : decode zb_XPiece_take 107 = .ok (.iconst 0, 1) := by decide +kernel
theorem zd_XPiece_take_108 : decode zb_XPiece_take 108 = .ok (.ireturn, 1) := by decide +kernel
theorem zf_L_6_0 (b : Nat) (m : zMem) (k : Nat) (v : Int64) : (zfl b 6 m k).set 0 (.long v) = zfl b 6 (mL m k 0 v) k := by simp [zfl, mL, upd, vp_updL]
def F_XPiece_take (sh : zSh) (mm : zMem) (o : Nat) (x0_ : Nat) (x1_ : Int32) (x2_ : Int32) : Option (Int32 × zMem) := zoS (sh o) 6 (fun le2 => Option.bind (mm.2.2 o 1) (fun a3 => zoS (sh x0_) 100 (fun le4 => zoS (sh a3) 100 (fun le6 => if ¬ (0 : Int32) < 0 ∧ ¬ (0 : Int32) < 0 ∧ ¬ (6 : Int32) < 0 ∧ (0 : Int32).toNatClampNeg + (6 : Int32).toNatClampNeg ≤ le4 ∧ (0 : Int32).toNatClampNeg + (6 : Int32).toNatClampNeg ≤ le6 then zoL (mC mm x0_ a3 (0 : Int32).toNatClampNeg (0 : Int32).toNatClampNeg (6 : Int32).toNatClampNeg) (fun mm9 => zoS (sh o) 6 (fun le11 => Option.bind (mm9.2.2 o 1) (fun a12 => zoL (6 * x1_) (fun x13 => zoS (sh x0_) 100 (fun le14 => zoS (sh a12) 100 (fun le16 => if ¬ (x13 : Int32) < 0 ∧ ¬ (6 : Int32) < 0 ∧ ¬ (12 : Int32) < 0 ∧ (x13 : Int32).toNatClampNeg + (12 : Int32).toNatClampNeg ≤ le14 ∧ (6 : Int32).toNatClampNeg + (12 : Int32).toNatClampNeg ≤ le16 then zoL (mC mm9 x0_ a12 (x13 : Int32).toNatClampNeg (6 : Int32).toNatClampNeg (12 : Int32).toNatClampNeg) (fun mm19 => zoS (sh o) 6 (fun le21 => Option.bind (F_XPiece_cross sh mm19 o 0 1) (fun p22 => zoS (sh o) 6 (fun le24 => zoL (mL (p22.2) o 0 (p22.1)) (fun mm25 => zoS (sh o) 6 (fun le27 => (if 0 ≤ (lg_cmp (mm25.2.1 o 0) 0) then zoS (sh o) 6 (fun le30 => (if (lg_cmp (mm25.2.1 o 0) 0) ≤ 0 then some (0, mm25) else some (1, mm25))) else (if x2_ = 0 then zoS (sh o) 6 (fun le34 => (if (lg_cmp (mm25.2.1 o 0) 0) ≤ 0 then some (0, mm25) else some (1, mm25))) else zoS (sh o) 6 (fun le37 => Option.bind (mm25.2.2 o 1) (fun a38 => zoL (6 * x1_) (fun x39 => zoS (sh x0_) 100 (fun le40 => zoS (sh a38) 100 (fun le42 => if ¬ (x39 : Int32) < 0 ∧ ¬ (12 : Int32) < 0 ∧ ¬ (6 : Int32) < 0 ∧ (x39 : Int32).toNatClampNeg + (6 : Int32).toNatClampNeg ≤ le40 ∧ (12 : Int32).toNatClampNeg + (6 : Int32).toNatClampNeg ≤ le42 then zoL (mC mm25 x0_ a38 (x39 : Int32).toNatClampNeg (12 : Int32).toNatClampNeg (6 : Int32).toNatClampNeg) (fun mm45 => zoS (sh o) 6 (fun le47 => Option.bind (mm45.2.2 o 1) (fun a48 => zoL (6 * (x1_ + 1)) (fun x49 => zoS (sh x0_) 100 (fun le50 => zoS (sh a48) 100 (fun le52 => if ¬ (x49 : Int32) < 0 ∧ ¬ (6 : Int32) < 0 ∧ ¬ (6 : Int32) < 0 ∧ (x49 : Int32).toNatClampNeg + (6 : Int32).toNatClampNeg ≤ le50 ∧ (6 : Int32).toNatClampNeg + (6 : Int32).toNatClampNeg ≤ le52 then zoL (mC mm45 x0_ a48 (x49 : Int32).toNatClampNeg (6 : Int32).toNatClampNeg (6 : Int32).toNatClampNeg) (fun mm55 => zoS (sh o) 6 (fun le57 => zoL (-(mm55.2.1 o 0)) (fun x58 => zoS (sh o) 6 (fun le60 => zoL (mL mm55 o 0 x58) (fun mm61 => zoS (sh o) 6 (fun le63 => (if (lg_cmp (mm61.2.1 o 0) 0) ≤ 0 then some (0, mm61) else some (1, mm61)))))))) else none)))))) else none))))))))))))) else none)))))) else none))))
set_option maxHeartbeats 4000000 in
set_option maxRecDepth 100000 in
theorem k_XPiece_take (l : Launch) (D : va_G) (tA : Nat → ClassId) (b : Nat) (sh : zSh) (n : Nat) {mm : zMem} {o : Nat} {x0_ : Nat} {x1_ : Int32} {x2_ : Int32} {r : (Int32 × zMem)} (h : F_XPiece_take sh mm o x0_ x1_ x2_ = some r) : zM l D tA b zy_XPiece_take zb_XPiece_take 4 (some .boolean) 1 60 0 0 [.ref (b + o), .ref (b + x0_), .int x1_, .int x2_] (zW tA b sh mm) n (zE (some (.int (r.1))) (zW tA b sh r.2) n) := by
  unfold F_XPiece_take at h
  refine zM_of (own := "OrreryBox$Piece") (plainFor_of_name (by decide)) rfl (Nat.le_of_ble_eq_true rfl) (fun p e s m below meth c F hr hin hH => ?_)
  refine zr_aload_n F zd_XPiece_take_0 rfl ?_
  refine zr_iconstv (v := 0) F zd_XPiece_take_1 (by decide) ?_
  refine zr_aload_n F zd_XPiece_take_2 rfl ?_
  obtain ⟨le2, hs1, h⟩ := zoS_s h
  obtain ⟨a3, ea3, h⟩ := zoB_s h
  refine zr_get F 6 1 zd_XPiece_take_3 (zW_o hs1 (by decide)) rfl (by decide) zw_351 rfl (by rfl) ?_
  refine zr_tor ea3 ?_
  refine zr_iconstv (v := 0) F zd_XPiece_take_6 (by decide) ?_
  refine zr_bipushv (v := 6) F zd_XPiece_take_7 (by decide) ?_
  obtain ⟨le4, hs5, h⟩ := zoS_s h
  obtain ⟨le6, hs7, h⟩ := zoS_s h
  obtain ⟨hc8, h⟩ := zoT_s h
  obtain ⟨mm9, emm9, h⟩ := zoL_s h
  refine zr_copy F zd_XPiece_take_9 zw_754 zw_724 zw_723 zw_26 (zW_a0 hs5) (zW_a0 hs7) hc8.1 hc8.2.1 hc8.2.2.1 hc8.2.2.2.1 hc8.2.2.2.2 (Nat.le_of_ble_eq_true rfl) (Nat.le_of_ble_eq_true rfl) ?_
  refine zr_norm (zW tA b sh mm9) _ (by rw [emm9]; exact zW_c hs7) rfl ?_
  refine zr_pcn 12 rfl ?_
  refine zr_aload_n F zd_XPiece_take_12 rfl ?_
  refine zr_bipushv (v := 6) F zd_XPiece_take_13 (by decide) ?_
  refine zr_iload_n F zd_XPiece_take_15 rfl ?_
  refine zr_imul F zd_XPiece_take_16 ?_
  refine zr_aload_n F zd_XPiece_take_17 rfl ?_
  obtain ⟨le11, hs10, h⟩ := zoS_s h
  obtain ⟨a12, ea12, h⟩ := zoB_s h
  refine zr_get F 6 1 zd_XPiece_take_18 (zW_o hs10 (by decide)) rfl (by decide) zw_351 rfl (by rfl) ?_
  refine zr_tor ea12 ?_
  refine zr_bipushv (v := 6) F zd_XPiece_take_21 (by decide) ?_
  refine zr_bipushv (v := 12) F zd_XPiece_take_23 (by decide) ?_
  refine zr_pcn 25 rfl ?_
  obtain ⟨x13, ex13, h⟩ := zoL_s h
  rw [← ex13]
  obtain ⟨le14, hs15, h⟩ := zoS_s h
  obtain ⟨le16, hs17, h⟩ := zoS_s h
  obtain ⟨hc18, h⟩ := zoT_s h
  obtain ⟨mm19, emm19, h⟩ := zoL_s h
  refine zr_copy F zd_XPiece_take_25 zw_754 zw_724 zw_723 zw_26 (zW_a0 hs15) (zW_a0 hs17) hc18.1 hc18.2.1 hc18.2.2.1 hc18.2.2.2.1 hc18.2.2.2.2 (Nat.le_of_ble_eq_true rfl) (Nat.le_of_ble_eq_true rfl) ?_
  refine zr_norm (zW tA b sh mm19) _ (by rw [emm19]; exact zW_c hs17) rfl ?_
  refine zr_aload_n F zd_XPiece_take_28 rfl ?_
  refine zr_aload_n F zd_XPiece_take_29 rfl ?_
  refine zr_iconstv (v := 0) F zd_XPiece_take_30 (by decide) ?_
  refine zr_iconstv (v := 1) F zd_XPiece_take_31 (by decide) ?_
  obtain ⟨le21, hs20, h⟩ := zoS_s h
  obtain ⟨p22, ep22, h⟩ := zoB_s h
  refine zr_callV1 F (k_XPiece_cross l D tA b sh _ ep22) zd_XPiece_take_32 (zW_o hs20 (by decide)) rfl zs_XPiece_21 rfl zq_XPiece_cross rfl rfl ⟨(Nat.le_of_ble_eq_true rfl), (Nat.le_of_ble_eq_true rfl)⟩ (Nat.le_of_ble_eq_true rfl) ⟨(Nat.le_of_ble_eq_true rfl), (Nat.le_of_ble_eq_true rfl)⟩ ?_
  obtain ⟨le24, hs23, h⟩ := zoS_s h
  refine zr_put F 6 0 zd_XPiece_take_35 (zW_o hs23 (by decide)) rfl (by decide) zw_349 rfl rfl rfl rfl (by exact (Nat.le_of_ble_eq_true rfl)) ?_
  obtain ⟨mm25, emm25, h⟩ := zoL_s h
  refine zr_norm (zW tA b sh mm25) _ (by rw [emm25]; exact zW_pL (v := (p22.1)) hs23 (by decide) (zf_L_6_0 b _ _ _)) rfl ?_
  refine zr_aload_n F zd_XPiece_take_38 rfl ?_
  refine zr_pcn 39 rfl ?_
  obtain ⟨le27, hs26, h⟩ := zoS_s h
  refine zr_get F 6 0 zd_XPiece_take_39 (zW_o hs26 (by decide)) rfl (by decide) zw_349 rfl (by rfl) ?_
  refine zr_lconstv (v := 0) F zd_XPiece_take_42 (by decide) ?_
  refine zr_lcmp F zd_XPiece_take_43 ?_
  refine zr_if_ge F 94 zd_XPiece_take_44 (by decide) (fun hb28 => ?_) (fun hb28 => ?_)
  ·
    rw [if_pos hb28] at h
    refine zr_aload_n F zd_XPiece_take_94 rfl ?_
    obtain ⟨le30, hs29, h⟩ := zoS_s h
    refine zr_get F 6 0 zd_XPiece_take_95 (zW_o hs29 (by decide)) rfl (by decide) zw_349 rfl (by rfl) ?_
    refine zr_lconstv (v := 0) F zd_XPiece_take_98 (by decide) ?_
    refine zr_lcmp F zd_XPiece_take_99 ?_
    refine zr_pcn 100 rfl ?_
    refine zr_if_le F 107 zd_XPiece_take_100 (by decide) (fun hb31 => ?_) (fun hb31 => ?_)
    ·
      rw [if_pos hb31] at h
      refine zr_iconstv (v := 0) F zd_XPiece_take_107 (by decide) ?_
      obtain rfl := Option.some.inj h
      exact zr_zret F hr rfl zd_XPiece_take_108 (Nat.le_of_ble_eq_true rfl) (Nat.le_of_ble_eq_true rfl) ⟨rfl, rfl, rfl⟩
    ·
      rw [if_neg hb31] at h
      refine zr_iconstv (v := 1) F zd_XPiece_take_103 (by decide) ?_
      refine zr_goto F 108 zd_XPiece_take_104 (by decide) ?_
      obtain rfl := Option.some.inj h
      exact zr_zret F hr rfl zd_XPiece_take_108 (Nat.le_of_ble_eq_true rfl) (Nat.le_of_ble_eq_true rfl) ⟨rfl, rfl, rfl⟩
  ·
    rw [if_neg hb28] at h
    refine zr_iload_n F zd_XPiece_take_47 rfl ?_
    refine zr_if_eq F 94 zd_XPiece_take_48 (by decide) (fun hb32 => ?_) (fun hb32 => ?_)
    ·
      rw [if_pos hb32] at h
      refine zr_pcn 94 rfl ?_
      refine zr_aload_n F zd_XPiece_take_94 rfl ?_
      obtain ⟨le34, hs33, h⟩ := zoS_s h
      refine zr_get F 6 0 zd_XPiece_take_95 (zW_o hs33 (by decide)) rfl (by decide) zw_349 rfl (by rfl) ?_
      refine zr_lconstv (v := 0) F zd_XPiece_take_98 (by decide) ?_
      refine zr_lcmp F zd_XPiece_take_99 ?_
      refine zr_if_le F 107 zd_XPiece_take_100 (by decide) (fun hb35 => ?_) (fun hb35 => ?_)
      ·
        rw [if_pos hb35] at h
        refine zr_iconstv (v := 0) F zd_XPiece_take_107 (by decide) ?_
        obtain rfl := Option.some.inj h
        exact zr_zret F hr rfl zd_XPiece_take_108 (Nat.le_of_ble_eq_true rfl) (Nat.le_of_ble_eq_true rfl) ⟨rfl, rfl, rfl⟩
      ·
        rw [if_neg hb35] at h
        refine zr_iconstv (v := 1) F zd_XPiece_take_103 (by decide) ?_
        refine zr_pcn 104 rfl ?_
        refine zr_goto F 108 zd_XPiece_take_104 (by decide) ?_
        obtain rfl := Option.some.inj h
        exact zr_zret F hr rfl zd_XPiece_take_108 (Nat.le_of_ble_eq_true rfl) (Nat.le_of_ble_eq_true rfl) ⟨rfl, rfl, rfl⟩
    ·
      rw [if_neg hb32] at h
      refine zr_aload_n F zd_XPiece_take_51 rfl ?_
      refine zr_bipushv (v := 6) F zd_XPiece_take_52 (by decide) ?_
      refine zr_iload_n F zd_XPiece_take_54 rfl ?_
      refine zr_imul F zd_XPiece_take_55 ?_
      refine zr_aload_n F zd_XPiece_take_56 rfl ?_
      obtain ⟨le37, hs36, h⟩ := zoS_s h
      obtain ⟨a38, ea38, h⟩ := zoB_s h
      refine zr_get F 6 1 zd_XPiece_take_57 (zW_o hs36 (by decide)) rfl (by decide) zw_351 rfl (by rfl) ?_
      refine zr_tor ea38 ?_
      refine zr_pcn 60 rfl ?_
      refine zr_bipushv (v := 12) F zd_XPiece_take_60 (by decide) ?_
      refine zr_bipushv (v := 6) F zd_XPiece_take_62 (by decide) ?_
      obtain ⟨x39, ex39, h⟩ := zoL_s h
      rw [← ex39]
      obtain ⟨le40, hs41, h⟩ := zoS_s h
      obtain ⟨le42, hs43, h⟩ := zoS_s h
      obtain ⟨hc44, h⟩ := zoT_s h
      obtain ⟨mm45, emm45, h⟩ := zoL_s h
      refine zr_copy F zd_XPiece_take_64 zw_754 zw_724 zw_723 zw_26 (zW_a0 hs41) (zW_a0 hs43) hc44.1 hc44.2.1 hc44.2.2.1 hc44.2.2.2.1 hc44.2.2.2.2 (Nat.le_of_ble_eq_true rfl) (Nat.le_of_ble_eq_true rfl) ?_
      refine zr_norm (zW tA b sh mm45) _ (by rw [emm45]; exact zW_c hs43) rfl ?_
      refine zr_aload_n F zd_XPiece_take_67 rfl ?_
      refine zr_bipushv (v := 6) F zd_XPiece_take_68 (by decide) ?_
      refine zr_iload_n F zd_XPiece_take_70 rfl ?_
      refine zr_iconstv (v := 1) F zd_XPiece_take_71 (by decide) ?_
      refine zr_iadd F zd_XPiece_take_72 ?_
      refine zr_pcn 73 rfl ?_
      refine zr_imul F zd_XPiece_take_73 ?_
      refine zr_aload_n F zd_XPiece_take_74 rfl ?_
      obtain ⟨le47, hs46, h⟩ := zoS_s h
      obtain ⟨a48, ea48, h⟩ := zoB_s h
      refine zr_get F 6 1 zd_XPiece_take_75 (zW_o hs46 (by decide)) rfl (by decide) zw_351 rfl (by rfl) ?_
      refine zr_tor ea48 ?_
      refine zr_bipushv (v := 6) F zd_XPiece_take_78 (by decide) ?_
      refine zr_bipushv (v := 6) F zd_XPiece_take_80 (by decide) ?_
      obtain ⟨x49, ex49, h⟩ := zoL_s h
      rw [← ex49]
      obtain ⟨le50, hs51, h⟩ := zoS_s h
      obtain ⟨le52, hs53, h⟩ := zoS_s h
      obtain ⟨hc54, h⟩ := zoT_s h
      obtain ⟨mm55, emm55, h⟩ := zoL_s h
      refine zr_copy F zd_XPiece_take_82 zw_754 zw_724 zw_723 zw_26 (zW_a0 hs51) (zW_a0 hs53) hc54.1 hc54.2.1 hc54.2.2.1 hc54.2.2.2.1 hc54.2.2.2.2 (Nat.le_of_ble_eq_true rfl) (Nat.le_of_ble_eq_true rfl) ?_
      refine zr_norm (zW tA b sh mm55) _ (by rw [emm55]; exact zW_c hs53) rfl ?_
      refine zr_aload_n F zd_XPiece_take_85 rfl ?_
      refine zr_aload_n F zd_XPiece_take_86 rfl ?_
      refine zr_pcn 87 rfl ?_
      obtain ⟨le57, hs56, h⟩ := zoS_s h
      refine zr_get F 6 0 zd_XPiece_take_87 (zW_o hs56 (by decide)) rfl (by decide) zw_349 rfl (by rfl) ?_
      refine zr_lneg F zd_XPiece_take_90 ?_
      obtain ⟨x58, ex58, h⟩ := zoL_s h
      rw [← ex58]
      obtain ⟨le60, hs59, h⟩ := zoS_s h
      refine zr_put F 6 0 zd_XPiece_take_91 (zW_o hs59 (by decide)) rfl (by decide) zw_349 rfl rfl rfl rfl (by exact (Nat.le_of_ble_eq_true rfl)) ?_
      obtain ⟨mm61, emm61, h⟩ := zoL_s h
      refine zr_norm (zW tA b sh mm61) _ (by rw [emm61]; exact zW_pL (v := x58) hs59 (by decide) (zf_L_6_0 b _ _ _)) rfl ?_
      refine zr_aload_n F zd_XPiece_take_94 rfl ?_
      obtain ⟨le63, hs62, h⟩ := zoS_s h
      refine zr_get F 6 0 zd_XPiece_take_95 (zW_o hs62 (by decide)) rfl (by decide) zw_349 rfl (by rfl) ?_
      refine zr_lconstv (v := 0) F zd_XPiece_take_98 (by decide) ?_
      refine zr_lcmp F zd_XPiece_take_99 ?_
      refine zr_if_le F 107 zd_XPiece_take_100 (by decide) (fun hb64 => ?_) (fun hb64 => ?_)
      ·
        rw [if_pos hb64] at h
        refine zr_pcn 107 rfl ?_
        refine zr_iconstv (v := 0) F zd_XPiece_take_107 (by decide) ?_
        obtain rfl := Option.some.inj h
        exact zr_zret F hr rfl zd_XPiece_take_108 (Nat.le_of_ble_eq_true rfl) (Nat.le_of_ble_eq_true rfl) ⟨rfl, rfl, rfl⟩
      ·
        rw [if_neg hb64] at h
        refine zr_iconstv (v := 1) F zd_XPiece_take_103 (by decide) ?_
        refine zr_goto F 108 zd_XPiece_take_104 (by decide) ?_
        obtain rfl := Option.some.inj h
        exact zr_zret F hr rfl zd_XPiece_take_108 (Nat.le_of_ble_eq_true rfl) (Nat.le_of_ble_eq_true rfl) ⟨rfl, rfl, rfl⟩
abbrev zb_XPiece_takeAt : ByteArray := prog_7_method_4_code
def zy_XPiece_takeAt : MethodName := ⟨"OrreryBox$Piece", "takeAt", "([II)V"⟩
theorem zc_XPiece_takeAt : Cond.code zy_XPiece_takeAt zb_XPiece_takeAt 3 none ∈ gw := gw_t 788 (by decide +kernel) rfl
theorem zq_XPiece_takeAt : zy_XPiece_takeAt.cls ≠ "java/lang/invoke/MethodHandle" ∧ zy_XPiece_takeAt.cls ≠ "java/lang/invoke/VarHandle" ∧ (parseMethodDescriptor zy_XPiece_takeAt.desc).map (fun d => d.parameters.length) = some 2 := by decide +kernel
theorem zd_XPiece_takeAt_0 : decode zb_XPiece_takeAt 0 = .ok (.aload_n 1, 1) := by decide +kernel
theorem zd_XPiece_takeAt_1 : decode zb_XPiece_takeAt 1 = .ok (.iload_n 2, 1) := by decide +kernel
theorem zd_XPiece_takeAt_2 : decode zb_XPiece_takeAt 2 = .ok (.aload_n 0, 1) := by decide +kernel
theorem zd_XPiece_takeAt_3 : decode zb_XPiece_takeAt 3 = .ok (.getfield 9, 3) := by decide +kernel
theorem zd_XPiece_takeAt_6 : decode zb_XPiece_takeAt 6 = .ok (.iconst 0, 1) := by decide +kernel
theorem zd_XPiece_takeAt_7 : decode zb_XPiece_takeAt 7 = .ok (.bipush 18, 2) := by decide +kernel
theorem zd_XPiece_takeAt_9 : decode zb_XPiece_takeAt 9 = .ok (.invokestatic 15, 3) := by decide +kernel
theorem zd_XPiece_takeAt_12 : decode zb_XPiece_takeAt 12 = .ok (.aload_n 0, 1) := by decide +kernel
theorem zd_XPiece_takeAt_13 : decode zb_XPiece_takeAt 13 = .ok (.aload_n 0, 1) := by decide +kernel
theorem zd_XPiece_takeAt_14 : decode zb_XPiece_takeAt 14 = .ok (.iconst 0, 1) := by decide +kernel
theorem zd_XPiece_takeAt_15 : decode zb_XPiece_takeAt 15 = .ok (.iconst 1, 1) := by decide +kernel
theorem zd_XPiece_takeAt_16 : decode zb_XPiece_takeAt 16 = .ok (.invokevirtual 21, 3) := by decide +kernel
theorem zd_XPiece_takeAt_19 : decode zb_XPiece_takeAt 19 = .ok (.putfield 25, 3) := by decide +kernel
theorem zd_XPiece_takeAt_22 : decode zb_XPiece_takeAt 22 = .ok (.return_, 1) := by decide +kernel
def F_XPiece_takeAt (sh : zSh) (mm : zMem) (o : Nat) (x0_ : Nat) (x1_ : Int32) : Option zMem := zoS (sh o) 6 (fun le2 => Option.bind (mm.2.2 o 1) (fun a3 => zoS (sh x0_) 100 (fun le4 => zoS (sh a3) 100 (fun le6 => if ¬ (x1_ : Int32) < 0 ∧ ¬ (0 : Int32) < 0 ∧ ¬ (18 : Int32) < 0 ∧ (x1_ : Int32).toNatClampNeg + (18 : Int32).toNatClampNeg ≤ le4 ∧ (0 : Int32).toNatClampNeg + (18 : Int32).toNatClampNeg ≤ le6 then zoL (mC mm x0_ a3 (x1_ : Int32).toNatClampNeg (0 : Int32).toNatClampNeg (18 : Int32).toNatClampNeg) (fun mm9 => zoS (sh o) 6 (fun le11 => Option.bind (F_XPiece_cross sh mm9 o 0 1) (fun p12 => zoS (sh o) 6 (fun le14 => zoL (mL (p12.2) o 0 (p12.1)) (fun mm15 => some mm15))))) else none))))
set_option maxHeartbeats 4000000 in
set_option maxRecDepth 100000 in
theorem k_XPiece_takeAt (l : Launch) (D : va_G) (tA : Nat → ClassId) (b : Nat) (sh : zSh) (n : Nat) {mm : zMem} {o : Nat} {x0_ : Nat} {x1_ : Int32} {r : zMem} (h : F_XPiece_takeAt sh mm o x0_ x1_ = some r) : zM l D tA b zy_XPiece_takeAt zb_XPiece_takeAt 3 none 1 60 0 0 [.ref (b + o), .ref (b + x0_), .int x1_] (zW tA b sh mm) n (zE none (zW tA b sh r) n) := by
  unfold F_XPiece_takeAt at h
  refine zM_of (own := "OrreryBox$Piece") (plainFor_of_name (by decide)) rfl (Nat.le_of_ble_eq_true rfl) (fun p e s m below meth c F hr hin hH => ?_)
  refine zr_aload_n F zd_XPiece_takeAt_0 rfl ?_
  refine zr_iload_n F zd_XPiece_takeAt_1 rfl ?_
  refine zr_aload_n F zd_XPiece_takeAt_2 rfl ?_
  obtain ⟨le2, hs1, h⟩ := zoS_s h
  obtain ⟨a3, ea3, h⟩ := zoB_s h
  refine zr_get F 6 1 zd_XPiece_takeAt_3 (zW_o hs1 (by decide)) rfl (by decide) zw_351 rfl (by rfl) ?_
  refine zr_tor ea3 ?_
  refine zr_iconstv (v := 0) F zd_XPiece_takeAt_6 (by decide) ?_
  refine zr_bipushv (v := 18) F zd_XPiece_takeAt_7 (by decide) ?_
  obtain ⟨le4, hs5, h⟩ := zoS_s h
  obtain ⟨le6, hs7, h⟩ := zoS_s h
  obtain ⟨hc8, h⟩ := zoT_s h
  obtain ⟨mm9, emm9, h⟩ := zoL_s h
  refine zr_copy F zd_XPiece_takeAt_9 zw_754 zw_724 zw_723 zw_26 (zW_a0 hs5) (zW_a0 hs7) hc8.1 hc8.2.1 hc8.2.2.1 hc8.2.2.2.1 hc8.2.2.2.2 (Nat.le_of_ble_eq_true rfl) (Nat.le_of_ble_eq_true rfl) ?_
  refine zr_norm (zW tA b sh mm9) _ (by rw [emm9]; exact zW_c hs7) rfl ?_
  refine zr_pcn 12 rfl ?_
  refine zr_aload_n F zd_XPiece_takeAt_12 rfl ?_
  refine zr_aload_n F zd_XPiece_takeAt_13 rfl ?_
  refine zr_iconstv (v := 0) F zd_XPiece_takeAt_14 (by decide) ?_
  refine zr_iconstv (v := 1) F zd_XPiece_takeAt_15 (by decide) ?_
  obtain ⟨le11, hs10, h⟩ := zoS_s h
  obtain ⟨p12, ep12, h⟩ := zoB_s h
  refine zr_callV1 F (k_XPiece_cross l D tA b sh _ ep12) zd_XPiece_takeAt_16 (zW_o hs10 (by decide)) rfl zs_XPiece_21 rfl zq_XPiece_cross rfl rfl ⟨(Nat.le_of_ble_eq_true rfl), (Nat.le_of_ble_eq_true rfl)⟩ (Nat.le_of_ble_eq_true rfl) ⟨(Nat.le_of_ble_eq_true rfl), (Nat.le_of_ble_eq_true rfl)⟩ ?_
  obtain ⟨le14, hs13, h⟩ := zoS_s h
  refine zr_put F 6 0 zd_XPiece_takeAt_19 (zW_o hs13 (by decide)) rfl (by decide) zw_349 rfl rfl rfl rfl (by exact (Nat.le_of_ble_eq_true rfl)) ?_
  obtain ⟨mm15, emm15, h⟩ := zoL_s h
  refine zr_norm (zW tA b sh mm15) _ (by rw [emm15]; exact zW_pL (v := (p12.1)) hs13 (by decide) (zf_L_6_0 b _ _ _)) rfl ?_
  obtain rfl := Option.some.inj h
  exact zr_vret F hr zd_XPiece_takeAt_22 (Nat.le_of_ble_eq_true rfl) (Nat.le_of_ble_eq_true rfl) ⟨rfl, rfl, rfl⟩
