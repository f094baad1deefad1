abbrev zb_XPacker_closeChunk : ByteArray := prog_5_method_12_code
def zy_XPacker_closeChunk : MethodName := ⟨"OrreryBox$Packer", "closeChunk", "(I)V"⟩
theorem zc_XPacker_closeChunk : Cond.code zy_XPacker_closeChunk zb_XPacker_closeChunk 5 none ∈ gw := gw_t 1002 (by decide +kernel) rfl
theorem zq_XPacker_closeChunk : zy_XPacker_closeChunk.cls ≠ "java/lang/invoke/MethodHandle" ∧ zy_XPacker_closeChunk.cls ≠ "java/lang/invoke/VarHandle" ∧ (parseMethodDescriptor zy_XPacker_closeChunk.desc).map (fun d => d.parameters.length) = some 1 := by decide +kernel
theorem zd_XPacker_closeChunk_0 : decode zb_XPacker_closeChunk 0 = .ok (.aload_n 0, 1) := by decide +kernel
theorem zd_XPacker_closeChunk_1 : decode zb_XPacker_closeChunk 1 = .ok (.getfield 36, 3) := by decide +kernel
theorem zd_XPacker_closeChunk_4 : decode zb_XPacker_closeChunk 4 = .ok (.istore_n 2, 1) := by decide +kernel
theorem zd_XPacker_closeChunk_5 : decode zb_XPacker_closeChunk 5 = .ok (.iconst (-1), 1) := by decide +kernel
theorem zd_XPacker_closeChunk_6 : decode zb_XPacker_closeChunk 6 = .ok (.istore_n 3, 1) := by decide +kernel
theorem zd_XPacker_closeChunk_7 : decode zb_XPacker_closeChunk 7 = .ok (.iload_n 1, 1) := by decide +kernel
theorem zd_XPacker_closeChunk_8 : decode zb_XPacker_closeChunk 8 = .ok (.iconst 4, 1) := by decide +kernel
theorem zd_XPacker_closeChunk_9 : decode zb_XPacker_closeChunk 9 = .ok (.iadd, 1) := by decide +kernel
theorem zd_XPacker_closeChunk_10 : decode zb_XPacker_closeChunk 10 = .ok (.istore 4, 2) := by decide +kernel
theorem zd_XPacker_closeChunk_12 : decode zb_XPacker_closeChunk 12 = .ok (.iload 4, 2) := by decide +kernel
theorem zd_XPacker_closeChunk_14 : decode zb_XPacker_closeChunk 14 = .ok (.iload_n 2, 1) := by decide +kernel
theorem zd_XPacker_closeChunk_15 : decode zb_XPacker_closeChunk 15 = .ok (.if_icmp .ge 25, 3) := by decide +kernel
theorem zd_XPacker_closeChunk_18 : decode zb_XPacker_closeChunk 18 = .ok (.iload_n 3, 1) := by decide +kernel
theorem zd_XPacker_closeChunk_19 : decode zb_XPacker_closeChunk 19 = .ok (.aload_n 0, 1) := by decide +kernel
theorem zd_XPacker_closeChunk_20 : decode zb_XPacker_closeChunk 20 = .ok (.getfield 11, 3) := by decide +kernel
theorem zd_XPacker_closeChunk_23 : decode zb_XPacker_closeChunk 23 = .ok (.iload 4, 2) := by decide +kernel
theorem zd_XPacker_closeChunk_25 : decode zb_XPacker_closeChunk 25 = .ok (.baload, 1) := by decide +kernel
theorem zd_XPacker_closeChunk_26 : decode zb_XPacker_closeChunk 26 = .ok (.sipush 255, 3) := by decide +kernel
theorem zd_XPacker_closeChunk_29 : decode zb_XPacker_closeChunk 29 = .ok (.iand, 1) := by decide +kernel
theorem zd_XPacker_closeChunk_30 : decode zb_XPacker_closeChunk 30 = .ok (.invokestatic 107, 3) := by decide +kernel
theorem zd_XPacker_closeChunk_33 : decode zb_XPacker_closeChunk 33 = .ok (.istore_n 3, 1) := by decide +kernel
theorem zd_XPacker_closeChunk_34 : decode zb_XPacker_closeChunk 34 = .ok (.iinc 4 1, 3) := by decide +kernel
theorem zd_XPacker_closeChunk_37 : decode zb_XPacker_closeChunk 37 = .ok (.goto (-25), 3) := by decide +kernel
theorem zd_XPacker_closeChunk_40 : decode zb_XPacker_closeChunk 40 = .ok (.aload_n 0, 1) := by decide +kernel
theorem zd_XPacker_closeChunk_41 : decode zb_XPacker_closeChunk 41 = .ok (.iload_n 1, 1) := by decide +kernel
theorem zd_XPacker_closeChunk_42 : decode zb_XPacker_closeChunk 42 = .ok (.putfield 36, 3) := by decide +kernel
theorem zd_XPacker_closeChunk_45 : decode zb_XPacker_closeChunk 45 = .ok (.aload_n 0, 1) := by decide +kernel
theorem zd_XPacker_closeChunk_46 : decode zb_XPacker_closeChunk 46 = .ok (.iload_n 2, 1) := by decide +kernel
theorem zd_XPacker_closeChunk_47 : decode zb_XPacker_closeChunk 47 = .ok (.iload_n 1, 1) := by decide +kernel
theorem zd_XPacker_closeChunk_48 : decode zb_XPacker_closeChunk 48 = .ok (.isub, 1) := by decide +kernel
theorem zd_XPacker_closeChunk_49 : decode zb_XPacker_closeChunk 49 = .ok (.bipush 8, 2) := by decide +kernel
theorem zd_XPacker_closeChunk_51 : decode zb_XPacker_closeChunk 51 = .ok (.isub, 1) := by decide +kernel
theorem zd_XPacker_closeChunk_52 : decode zb_XPacker_closeChunk 52 = .ok (.invokevirtual 41, 3) := by decide +kernel
theorem zd_XPacker_closeChunk_55 : decode zb_XPacker_closeChunk 55 = .ok (.aload_n 0, 1) := by decide +kernel
theorem zd_XPacker_closeChunk_56 : decode zb_XPacker_closeChunk 56 = .ok (.iload_n 2, 1) := by decide +kernel
theorem zd_XPacker_closeChunk_57 : decode zb_XPacker_closeChunk 57 = .ok (.putfield 36, 3) := by decide +kernel
theorem zd_XPacker_closeChunk_60 : decode zb_XPacker_closeChunk 60 = .ok (.aload_n 0, 1) := by decide +kernel
theorem zd_XPacker_closeChunk_61 : decode zb_XPacker_closeChunk 61 = .ok (.iload_n 3, 1) := by decide +kernel
theorem zd_XPacker_closeChunk_62 : decode zb_XPacker_closeChunk 62 = .ok (.iconst (-1), 1) := by decide +kernel
theorem zd_XPacker_closeChunk_63 : decode zb_XPacker_closeChunk 63 = .ok (.ixor, 1) := by decide +kernel
theorem zd_XPacker_closeChunk_64 : decode zb_XPacker_closeChunk 64 = .ok (.invokevirtual 41, 3) := by decide +kernel
theorem zd_XPacker_closeChunk_67 : decode zb_XPacker_closeChunk 67 = .ok (.return_, 1) := by decide +kernel
theorem zw_1003 : (Jvm.Cond.methodLink "OrreryBox$Packer" (107 : Nat) ({ cls := "OrreryBox$Packer", name := "crcWith", desc := "(II)I" } : Jvm.MethodName)) ∈ gw := gw_t 1003 (by decide +kernel) rfl
theorem zw_1004 : (Jvm.Cond.static ({ cls := "OrreryBox$Packer", name := "crcWith", desc := "(II)I" } : Jvm.MethodName)) ∈ gw := gw_t 1004 (by decide +kernel) rfl
theorem zs_XPacker_107 : zwS "OrreryBox$Packer" 107 zy_XPacker_crcWith zb_XPacker_crcWith 4 (some .int) := ⟨zw_1003, zw_1004, zw_3, zc_XPacker_crcWith⟩
def L_XPacker_closeChunk_12 (sh : zSh) (fuel : Nat) (v0 : Nat) (v1 : Int32) (v2 : Int32) (v3 : Int32) (v4 : Int32) (mm : zMem) : Option (Nat × Int32 × Int32 × Int32 × Int32 × zMem) := match fuel with
  | 0 => none
  | fu + 1 => (if v2 ≤ v4 then some (v0, v1, v2, v3, v4, mm) else zoS (sh v0) 4 (fun le7 => Option.bind (mm.2.2 v0 0) (fun a8 => zoS (sh a8) 101 (fun le10 => if (v4 : Int32) < 0 ∨ le10 ≤ (v4 : Int32).toNatClampNeg then none else zoL ((mm.1 a8 (v4 : Int32).toNatClampNeg) &&& 255) (fun x12 => Option.bind (F_XPacker_crcWith sh mm v3 x12) (fun p13 => L_XPacker_closeChunk_12 sh fu v0 v1 v2 (p13.1) (v4 + 1) (p13.2)))))))
set_option maxHeartbeats 4000000 in
set_option maxRecDepth 100000 in
theorem lp_XPacker_closeChunk_12 {p : Program} {l : Launch} {e : Env} {s : State} {m : MethodId} {args : Array Value} {below : List Frame} {meth : Method} {c : Code} {D : va_G} {tA : Nat → ClassId} {b n : Nat} {post : Option Value → zV → Nat → Prop} {sh : zSh} (F : zF p s m args meth c zb_XPacker_closeChunk 5 "OrreryBox$Packer" D tA b) : ∀ (fuel : Nat) (v0 : Nat) (v1 : Int32) (v2 : Int32) (v3 : Int32) (v4 : Int32) (mm : zMem) (r : Nat × Int32 × Int32 × Int32 × Int32 × zMem), L_XPacker_closeChunk_12 sh fuel v0 v1 v2 v3 v4 mm = some r → (Z p l e { frames := 2, cells := 0, slots := 0, locals := 42 } s m args below meth c D b 5 (MQ below (zQ D b post) args s 0 0 (fun q => b ≤ q)) (zW tA b sh r.2.2.2.2.2) n 0 0 40 [(0, .ref (b + (r.1))), (1, .int (r.2.1)), (2, .int (r.2.2.1)), (3, .int (r.2.2.2.1)), (4, .int (r.2.2.2.2.1))] []) → Z p l e { frames := 2, cells := 0, slots := 0, locals := 42 } s m args below meth c D b 5 (MQ below (zQ D b post) args s 0 0 (fun q => b ≤ q)) (zW tA b sh mm) n 0 0 12 [(0, .ref (b + v0)), (1, .int v1), (2, .int v2), (3, .int v3), (4, .int v4)] [] := by
  intro fuel
  induction fuel with
  | zero =>
    intro v0 v1 v2 v3 v4 mm r h
    cases h
  | succ fu ih =>
    intro v0 v1 v2 v3 v4 mm r h hx0
    rw [L_XPacker_closeChunk_12] at h
    refine zr_iload F zd_XPacker_closeChunk_12 rfl ?_
    refine zr_iload_n F zd_XPacker_closeChunk_14 rfl ?_
    refine zr_icmp_ge F 40 zd_XPacker_closeChunk_15 (by decide) (fun hb5 => ?_) (fun hb5 => ?_)
    ·
      rw [if_pos hb5] at h
      obtain rfl := Option.some.inj h
      refine zr_loc (L' := [(0, .ref (b + v0)), (1, .int v1), (2, .int v2), (3, .int v3), (4, .int v4)]) ⟨rfl, rfl, rfl, rfl, rfl, trivial⟩ ?_
      exact hx0 
    ·
      rw [if_neg hb5] at h
      refine zr_iload_n F zd_XPacker_closeChunk_18 rfl ?_
      refine zr_aload_n F zd_XPacker_closeChunk_19 rfl ?_
      obtain ⟨le7, hs6, h⟩ := zoS_s h
      obtain ⟨a8, ea8, h⟩ := zoB_s h
      refine zr_get F 4 0 zd_XPacker_closeChunk_20 (zW_o hs6 (by decide)) rfl (by decide) zw_81 rfl (by rfl) ?_
      refine zr_tor ea8 ?_
      refine zr_pcn 23 rfl ?_
      refine zr_iload F zd_XPacker_closeChunk_23 rfl ?_
      obtain ⟨le10, hs9, h⟩ := zoS_s h
      obtain ⟨hi11, h⟩ := zoI_s h
      refine zr_bald F zd_XPacker_closeChunk_25 (zW_a1 hs9) hi11 ?_
      refine zr_sipushv (v := 255) F zd_XPacker_closeChunk_26 (by decide) ?_
      refine zr_iand F zd_XPacker_closeChunk_29 ?_
      obtain ⟨x12, ex12, h⟩ := zoL_s h
      rw [← ex12]
      obtain ⟨p13, ep13, h⟩ := zoB_s h
      refine zr_callS1 F (k_XPacker_crcWith l D tA b sh _ ep13) zd_XPacker_closeChunk_30 zs_XPacker_107 zq_XPacker_crcWith rfl rfl ⟨(Nat.le_of_ble_eq_true rfl), (Nat.le_of_ble_eq_true rfl)⟩ (Nat.le_of_ble_eq_true rfl) ⟨(Nat.le_of_ble_eq_true rfl), (Nat.le_of_ble_eq_true rfl)⟩ ?_
      refine zr_istore_n F zd_XPacker_closeChunk_33 (by decide) ?_
      refine zr_iinc (v := (v4 + 1)) F zd_XPacker_closeChunk_34 rfl rfl (by decide) ?_
      refine zr_goto F 12 zd_XPacker_closeChunk_37 (by decide) ?_
      refine zr_loc (L' := [(0, .ref (b + v0)), (1, .int v1), (2, .int v2), (3, .int (p13.1)), (4, .int (v4 + 1))]) ⟨rfl, rfl, rfl, rfl, rfl, trivial⟩ ?_
      exact ih _ _ _ _ _ _ _ h hx0
def F_XPacker_closeChunk (sh : zSh) (mm : zMem) (o : Nat) (x0_ : Int32) : Option zMem := zoS (sh o) 4 (fun le2 => zoL (mm.1 o 1) (fun x3 => zoL (x0_ + 4) (fun x4 => Option.bind (L_XPacker_closeChunk_12 sh zfuel o x0_ x3 (-1) x4 mm) (fun q14 => zoS (sh (q14.1)) 4 (fun le16 => zoL (mI (q14.2.2.2.2.2) (q14.1) 1 (q14.2.1)) (fun mm17 => zoS (sh (q14.1)) 4 (fun le19 => Option.bind (F_XPacker_putNumber sh mm17 (q14.1) ((q14.2.2.1 - q14.2.1) - 8)) (fun p20 => zoS (sh (q14.1)) 4 (fun le22 => zoL (mI p20 (q14.1) 1 (q14.2.2.1)) (fun mm23 => zoS (sh (q14.1)) 4 (fun le25 => Option.bind (F_XPacker_putNumber sh mm23 (q14.1) (q14.2.2.2.1 ^^^ (-1))) (fun p26 => some p26))))))))))))
set_option maxHeartbeats 4000000 in
set_option maxRecDepth 100000 in
theorem k_XPacker_closeChunk (l : Launch) (D : va_G) (tA : Nat → ClassId) (b : Nat) (sh : zSh) (n : Nat) {mm : zMem} {o : Nat} {x0_ : Int32} {r : zMem} (h : F_XPacker_closeChunk sh mm o x0_ = some r) : zM l D tA b zy_XPacker_closeChunk zb_XPacker_closeChunk 5 none 2 42 0 0 [.ref (b + o), .int x0_] (zW tA b sh mm) n (zE none (zW tA b sh r) n) := by
  unfold F_XPacker_closeChunk at h
  refine zM_of (own := "OrreryBox$Packer") (plainFor_of_name (by decide)) rfl (Nat.le_of_ble_eq_true rfl) (fun p e s m below meth c F hr hin hH => ?_)
  refine zr_aload_n F zd_XPacker_closeChunk_0 rfl ?_
  obtain ⟨le2, hs1, h⟩ := zoS_s h
  refine zr_get F 4 1 zd_XPacker_closeChunk_1 (zW_o hs1 (by decide)) rfl (by decide) zw_83 rfl (by rfl) ?_
  obtain ⟨x3, ex3, h⟩ := zoL_s h
  rw [← ex3]
  refine zr_istore_n F zd_XPacker_closeChunk_4 (by decide) ?_
  refine zr_iconstv (v := (-1)) F zd_XPacker_closeChunk_5 (by decide) ?_
  refine zr_istore_n F zd_XPacker_closeChunk_6 (by decide) ?_
  refine zr_iload_n F zd_XPacker_closeChunk_7 rfl ?_
  refine zr_iconstv (v := 4) F zd_XPacker_closeChunk_8 (by decide) ?_
  refine zr_pcn 9 rfl ?_
  refine zr_iadd F zd_XPacker_closeChunk_9 ?_
  obtain ⟨x4, ex4, h⟩ := zoL_s h
  rw [← ex4]
  refine zr_istore F zd_XPacker_closeChunk_10 (by decide) ?_
  obtain ⟨q14, eq14, h⟩ := zoB_s h
  refine zr_loc (L' := [(0, .ref (b + o)), (1, .int x0_), (2, .int x3), (3, .int (-1)), (4, .int x4)]) ⟨rfl, rfl, rfl, rfl, rfl, trivial⟩ ?_
  refine lp_XPacker_closeChunk_12 F _ _ _ _ _ _ _ _ eq14 ?_
  ·
    refine zr_pcn 40 rfl ?_
    refine zr_aload_n F zd_XPacker_closeChunk_40 rfl ?_
    refine zr_iload_n F zd_XPacker_closeChunk_41 rfl ?_
    obtain ⟨le16, hs15, h⟩ := zoS_s h
    refine zr_put F 4 1 zd_XPacker_closeChunk_42 (zW_o hs15 (by decide)) rfl (by decide) zw_83 rfl rfl rfl rfl (by exact (Nat.le_of_ble_eq_true rfl)) ?_
    obtain ⟨mm17, emm17, h⟩ := zoL_s h
    refine zr_norm (zW tA b sh mm17) _ (by rw [emm17]; exact zW_pI (v := (q14.2.1)) hs15 (by decide) (zf_I_4_1 b _ _ _)) rfl ?_
    refine zr_aload_n F zd_XPacker_closeChunk_45 rfl ?_
    refine zr_iload_n F zd_XPacker_closeChunk_46 rfl ?_
    refine zr_iload_n F zd_XPacker_closeChunk_47 rfl ?_
    refine zr_isub F zd_XPacker_closeChunk_48 ?_
    refine zr_bipushv (v := 8) F zd_XPacker_closeChunk_49 (by decide) ?_
    refine zr_pcn 51 rfl ?_
    refine zr_isub F zd_XPacker_closeChunk_51 ?_
    obtain ⟨le19, hs18, h⟩ := zoS_s h
    obtain ⟨p20, ep20, h⟩ := zoB_s h
    refine zr_callV0 F (k_XPacker_putNumber l D tA b sh _ ep20) zd_XPacker_closeChunk_52 (zW_o hs18 (by decide)) rfl zs_XPacker_41 rfl zq_XPacker_putNumber rfl rfl ⟨(Nat.le_of_ble_eq_true rfl), (Nat.le_of_ble_eq_true rfl)⟩ (Nat.le_of_ble_eq_true rfl) ⟨(Nat.le_of_ble_eq_true rfl), (Nat.le_of_ble_eq_true rfl)⟩ ?_
    refine zr_aload_n F zd_XPacker_closeChunk_55 rfl ?_
    refine zr_iload_n F zd_XPacker_closeChunk_56 rfl ?_
    obtain ⟨le22, hs21, h⟩ := zoS_s h
    refine zr_put F 4 1 zd_XPacker_closeChunk_57 (zW_o hs21 (by decide)) rfl (by decide) zw_83 rfl rfl rfl rfl (by exact (Nat.le_of_ble_eq_true rfl)) ?_
    obtain ⟨mm23, emm23, h⟩ := zoL_s h
    refine zr_norm (zW tA b sh mm23) _ (by rw [emm23]; exact zW_pI (v := (q14.2.2.1)) hs21 (by decide) (zf_I_4_1 b _ _ _)) rfl ?_
    refine zr_aload_n F zd_XPacker_closeChunk_60 rfl ?_
    refine zr_iload_n F zd_XPacker_closeChunk_61 rfl ?_
    refine zr_iconstv (v := (-1)) F zd_XPacker_closeChunk_62 (by decide) ?_
    refine zr_pcn 63 rfl ?_
    refine zr_ixor F zd_XPacker_closeChunk_63 ?_
    obtain ⟨le25, hs24, h⟩ := zoS_s h
    obtain ⟨p26, ep26, h⟩ := zoB_s h
    refine zr_callV0 F (k_XPacker_putNumber l D tA b sh _ ep26) zd_XPacker_closeChunk_64 (zW_o hs24 (by decide)) rfl zs_XPacker_41 rfl zq_XPacker_putNumber rfl rfl ⟨(Nat.le_of_ble_eq_true rfl), (Nat.le_of_ble_eq_true rfl)⟩ (Nat.le_of_ble_eq_true rfl) ⟨(Nat.le_of_ble_eq_true rfl), (Nat.le_of_ble_eq_true rfl)⟩ ?_
    obtain rfl := Option.some.inj h
    exact zr_vret F hr zd_XPacker_closeChunk_67 (Nat.le_of_ble_eq_true rfl) (Nat.le_of_ble_eq_true rfl) ⟨rfl, rfl, rfl⟩
abbrev zb_XPacker_findRun : ByteArray := prog_5_method_16_code
def zy_XPacker_findRun : MethodName := ⟨"OrreryBox$Packer", "findRun", "(I)V"⟩
theorem zc_XPacker_findRun : Cond.code zy_XPacker_findRun zb_XPacker_findRun 6 none ∈ gw := gw_t 1023 (by decide +kernel) rfl
theorem zq_XPacker_findRun : zy_XPacker_findRun.cls ≠ "java/lang/invoke/MethodHandle" ∧ zy_XPacker_findRun.cls ≠ "java/lang/invoke/VarHandle" ∧ (parseMethodDescriptor zy_XPacker_findRun.desc).map (fun d => d.parameters.length) = some 1 := by decide +kernel
theorem zd_XPacker_findRun_0 : decode zb_XPacker_findRun 0 = .ok (.sipush 258, 3) := by decide +kernel
theorem zd_XPacker_findRun_3 : decode zb_XPacker_findRun 3 = .ok (.aload_n 0, 1) := by decide +kernel
theorem zd_XPacker_findRun_4 : decode zb_XPacker_findRun 4 = .ok (.getfield 70, 3) := by decide +kernel
theorem zd_XPacker_findRun_7 : decode zb_XPacker_findRun 7 = .ok (.iload_n 1, 1) := by decide +kernel
theorem zd_XPacker_findRun_8 : decode zb_XPacker_findRun 8 = .ok (.isub, 1) := by decide +kernel
theorem zd_XPacker_findRun_9 : decode zb_XPacker_findRun 9 = .ok (.invokestatic 82, 3) := by decide +kernel
theorem zd_XPacker_findRun_12 : decode zb_XPacker_findRun 12 = .ok (.istore_n 2, 1) := by decide +kernel
theorem zd_XPacker_findRun_13 : decode zb_XPacker_findRun 13 = .ok (.aload_n 0, 1) := by decide +kernel
theorem zd_XPacker_findRun_14 : decode zb_XPacker_findRun 14 = .ok (.iconst 0, 1) := by decide +kernel
theorem zd_XPacker_findRun_15 : decode zb_XPacker_findRun 15 = .ok (.putfield 124, 3) := by decide +kernel
theorem zd_XPacker_findRun_18 : decode zb_XPacker_findRun 18 = .ok (.iload_n 2, 1) := by decide +kernel
theorem zd_XPacker_findRun_19 : decode zb_XPacker_findRun 19 = .ok (.iconst 3, 1) := by decide +kernel
theorem zd_XPacker_findRun_20 : decode zb_XPacker_findRun 20 = .ok (.if_icmp .ge 4, 3) := by decide +kernel
theorem zd_XPacker_findRun_23 : decode zb_XPacker_findRun 23 = .ok (.return_, 1) := by decide +kernel
theorem zd_XPacker_findRun_24 : decode zb_XPacker_findRun 24 = .ok (.aload_n 0, 1) := by decide +kernel
theorem zd_XPacker_findRun_25 : decode zb_XPacker_findRun 25 = .ok (.getfield 22, 3) := by decide +kernel
theorem zd_XPacker_findRun_28 : decode zb_XPacker_findRun 28 = .ok (.aload_n 0, 1) := by decide +kernel
theorem zd_XPacker_findRun_29 : decode zb_XPacker_findRun 29 = .ok (.iload_n 1, 1) := by decide +kernel
theorem zd_XPacker_findRun_30 : decode zb_XPacker_findRun 30 = .ok (.invokevirtual 142, 3) := by decide +kernel
theorem zd_XPacker_findRun_33 : decode zb_XPacker_findRun 33 = .ok (.iaload, 1) := by decide +kernel
theorem zd_XPacker_findRun_34 : decode zb_XPacker_findRun 34 = .ok (.istore_n 3, 1) := by decide +kernel
theorem zd_XPacker_findRun_35 : decode zb_XPacker_findRun 35 = .ok (.iconst 0, 1) := by decide +kernel
theorem zd_XPacker_findRun_36 : decode zb_XPacker_findRun 36 = .ok (.istore 4, 2) := by decide +kernel
theorem zd_XPacker_findRun_38 : decode zb_XPacker_findRun 38 = .ok (.iload 4, 2) := by decide +kernel
theorem zd_XPacker_findRun_40 : decode zb_XPacker_findRun 40 = .ok (.iload_n 1, 1) := by decide +kernel
theorem zd_XPacker_findRun_41 : decode zb_XPacker_findRun 41 = .ok (.if_icmp .ge 59, 3) := by decide +kernel
theorem zd_XPacker_findRun_44 : decode zb_XPacker_findRun 44 = .ok (.iload_n 3, 1) := by decide +kernel
theorem zd_XPacker_findRun_45 : decode zb_XPacker_findRun 45 = .ok (.ifCond .lt 55, 3) := by decide +kernel
theorem zd_XPacker_findRun_48 : decode zb_XPacker_findRun 48 = .ok (.aload_n 0, 1) := by decide +kernel
theorem zd_XPacker_findRun_49 : decode zb_XPacker_findRun 49 = .ok (.getfield 124, 3) := by decide +kernel
theorem zd_XPacker_findRun_52 : decode zb_XPacker_findRun 52 = .ok (.iload_n 2, 1) := by decide +kernel
theorem zd_XPacker_findRun_53 : decode zb_XPacker_findRun 53 = .ok (.if_icmp .ge 47, 3) := by decide +kernel
theorem zd_XPacker_findRun_56 : decode zb_XPacker_findRun 56 = .ok (.aload_n 0, 1) := by decide +kernel
theorem zd_XPacker_findRun_57 : decode zb_XPacker_findRun 57 = .ok (.iload_n 3, 1) := by decide +kernel
theorem zd_XPacker_findRun_58 : decode zb_XPacker_findRun 58 = .ok (.iload_n 1, 1) := by decide +kernel
theorem zd_XPacker_findRun_59 : decode zb_XPacker_findRun 59 = .ok (.iload_n 2, 1) := by decide +kernel
theorem zd_XPacker_findRun_60 : decode zb_XPacker_findRun 60 = .ok (.invokevirtual 145, 3) := by decide +kernel
theorem zd_XPacker_findRun_63 : decode zb_XPacker_findRun 63 = .ok (.istore 5, 2) := by decide +kernel
theorem zd_XPacker_findRun_65 : decode zb_XPacker_findRun 65 = .ok (.iload 5, 2) := by decide +kernel
theorem zd_XPacker_findRun_67 : decode zb_XPacker_findRun 67 = .ok (.aload_n 0, 1) := by decide +kernel
theorem zd_XPacker_findRun_68 : decode zb_XPacker_findRun 68 = .ok (.getfield 124, 3) := by decide +kernel
theorem zd_XPacker_findRun_71 : decode zb_XPacker_findRun 71 = .ok (.if_icmp .le 16, 3) := by decide +kernel
theorem zd_XPacker_findRun_74 : decode zb_XPacker_findRun 74 = .ok (.aload_n 0, 1) := by decide +kernel
theorem zd_XPacker_findRun_75 : decode zb_XPacker_findRun 75 = .ok (.iload 5, 2) := by decide +kernel
theorem zd_XPacker_findRun_77 : decode zb_XPacker_findRun 77 = .ok (.putfield 124, 3) := by decide +kernel
theorem zd_XPacker_findRun_80 : decode zb_XPacker_findRun 80 = .ok (.aload_n 0, 1) := by decide +kernel
theorem zd_XPacker_findRun_81 : decode zb_XPacker_findRun 81 = .ok (.iload_n 1, 1) := by decide +kernel
theorem zd_XPacker_findRun_82 : decode zb_XPacker_findRun 82 = .ok (.iload_n 3, 1) := by decide +kernel
theorem zd_XPacker_findRun_83 : decode zb_XPacker_findRun 83 = .ok (.isub, 1) := by decide +kernel
theorem zd_XPacker_findRun_84 : decode zb_XPacker_findRun 84 = .ok (.putfield 130, 3) := by decide +kernel
theorem zd_XPacker_findRun_87 : decode zb_XPacker_findRun 87 = .ok (.aload_n 0, 1) := by decide +kernel
theorem zd_XPacker_findRun_88 : decode zb_XPacker_findRun 88 = .ok (.getfield 25, 3) := by decide +kernel
theorem zd_XPacker_findRun_91 : decode zb_XPacker_findRun 91 = .ok (.iload_n 3, 1) := by decide +kernel
theorem zd_XPacker_findRun_92 : decode zb_XPacker_findRun 92 = .ok (.iaload, 1) := by decide +kernel
theorem zd_XPacker_findRun_93 : decode zb_XPacker_findRun 93 = .ok (.istore_n 3, 1) := by decide +kernel
theorem zd_XPacker_findRun_94 : decode zb_XPacker_findRun 94 = .ok (.iinc 4 1, 3) := by decide +kernel
theorem zd_XPacker_findRun_97 : decode zb_XPacker_findRun 97 = .ok (.goto (-59), 3) := by decide +kernel
theorem zd_XPacker_findRun_100 : decode zb_XPacker_findRun 100 = .ok (.return_, 1) := by decide +kernel
theorem zw_90 : (Jvm.Cond.fieldLink "OrreryBox$Packer" (124 : Nat) "OrreryBox$Packer" "runLength" "I") ∈ gw := gw_t 90 (by decide +kernel) rfl
theorem zf_I_4_7 (b : Nat) (m : zMem) (k : Nat) (v : Int32) : (zfl b 4 m k).set 7 (.int v) = zfl b 4 (mI m k 7 v) k := by simp [zfl, mI, upd, vp_updL]
theorem zw_1024 : (Jvm.Cond.methodLink "OrreryBox$Packer" (142 : Nat) ({ cls := "OrreryBox$Packer", name := "keyOf", desc := "(I)I" } : Jvm.MethodName)) ∈ gw := gw_t 1024 (by decide +kernel) rfl
theorem zw_1026 : (Jvm.Cond.instanceMethod ({ cls := "OrreryBox$Packer", name := "keyOf", desc := "(I)I" } : Jvm.MethodName)) ∈ gw := gw_t 1026 (by decide +kernel) rfl
theorem zv_38 : (Jvm.Cond.selects "OrreryBox$Packer" (⟨"OrreryBox$Packer", "keyOf", "(I)I"⟩ : MethodName) ⟨"OrreryBox$Packer", "keyOf", "(I)I"⟩) ∈ gw := gw_s 38 (by decide +kernel) rfl
theorem zs_XPacker_142 : zwV "OrreryBox$Packer" 142 "OrreryBox$Packer" zy_XPacker_keyOf zb_XPacker_keyOf 2 (some .int) := ⟨zw_1024, zw_1026, zv_38, zw_3, zc_XPacker_keyOf⟩
theorem zw_1028 : (Jvm.Cond.methodLink "OrreryBox$Packer" (145 : Nat) ({ cls := "OrreryBox$Packer", name := "sameFrom", desc := "(III)I" } : Jvm.MethodName)) ∈ gw := gw_t 1028 (by decide +kernel) rfl
theorem zw_1030 : (Jvm.Cond.instanceMethod ({ cls := "OrreryBox$Packer", name := "sameFrom", desc := "(III)I" } : Jvm.MethodName)) ∈ gw := gw_t 1030 (by decide +kernel) rfl
theorem zv_39 : (Jvm.Cond.selects "OrreryBox$Packer" (⟨"OrreryBox$Packer", "sameFrom", "(III)I"⟩ : MethodName) ⟨"OrreryBox$Packer", "sameFrom", "(III)I"⟩) ∈ gw := gw_s 39 (by decide +kernel) rfl
theorem zs_XPacker_145 : zwV "OrreryBox$Packer" 145 "OrreryBox$Packer" zy_XPacker_sameFrom zb_XPacker_sameFrom 5 (some .int) := ⟨zw_1028, zw_1030, zv_39, zw_3, zc_XPacker_sameFrom⟩
theorem zw_91 : (Jvm.Cond.fieldLink "OrreryBox$Packer" (130 : Nat) "OrreryBox$Packer" "runBack" "I") ∈ gw := gw_t 91 (by decide +kernel) rfl
theorem zf_I_4_8 (b : Nat) (m : zMem) (k : Nat) (v : Int32) : (zfl b 4 m k).set 8 (.int v) = zfl b 4 (mI m k 8 v) k := by simp [zfl, mI, upd, vp_updL]
def L_XPacker_findRun_38 (sh : zSh) (fuel : Nat) (v0 : Nat) (v1 : Int32) (v2 : Int32) (v3 : Int32) (v4 : Int32) (mm : zMem) : Option (Nat × Int32 × Int32 × Int32 × Int32 × zMem) := match fuel with
  | 0 => none
  | fu + 1 => (if v1 ≤ v4 then some (v0, v1, v2, v3, v4, mm) else (if v3 < 0 then some (v0, v1, v2, v3, v4, mm) else zoS (sh v0) 4 (fun le22 => (if v2 ≤ (mm.1 v0 7) then some (v0, v1, v2, v3, v4, mm) else zoS (sh v0) 4 (fun le25 => Option.bind (F_XPacker_sameFrom sh mm v0 v3 v1 v2) (fun p26 => zoS (sh v0) 4 (fun le28 => (if p26.1 ≤ ((p26.2).1 v0 7) then zoS (sh v0) 4 (fun le31 => Option.bind ((p26.2).2.2 v0 6) (fun a32 => zoS (sh a32) 100 (fun le34 => if (v3 : Int32) < 0 ∨ le34 ≤ (v3 : Int32).toNatClampNeg then none else zoL ((p26.2).1 a32 (v3 : Int32).toNatClampNeg) (fun x36 => L_XPacker_findRun_38 sh fu v0 v1 v2 x36 (v4 + 1) (p26.2))))) else zoS (sh v0) 4 (fun le38 => zoL (mI (p26.2) v0 7 (p26.1)) (fun mm39 => zoL (v1 - v3) (fun x40 => zoS (sh v0) 4 (fun le42 => zoL (mI mm39 v0 8 x40) (fun mm43 => zoS (sh v0) 4 (fun le45 => Option.bind (mm43.2.2 v0 6) (fun a46 => zoS (sh a46) 100 (fun le48 => if (v3 : Int32) < 0 ∨ le48 ≤ (v3 : Int32).toNatClampNeg then none else zoL (mm43.1 a46 (v3 : Int32).toNatClampNeg) (fun x50 => L_XPacker_findRun_38 sh fu v0 v1 v2 x50 (v4 + 1) mm43)))))))))))))))))
set_option maxHeartbeats 4000000 in
set_option maxRecDepth 100000 in
theorem lp_XPacker_findRun_38 {p : Program} {l : Launch} {e : Env} {s : State} {m : MethodId} {args : Array Value} {below : List Frame} {meth : Method} {c : Code} {D : va_G} {tA : Nat → ClassId} {b n : Nat} {post : Option Value → zV → Nat → Prop} {sh : zSh} (F : zF p s m args meth c zb_XPacker_findRun 6 "OrreryBox$Packer" D tA b) : ∀ (fuel : Nat) (v0 : Nat) (v1 : Int32) (v2 : Int32) (v3 : Int32) (v4 : Int32) (mm : zMem) (r : Nat × Int32 × Int32 × Int32 × Int32 × zMem), L_XPacker_findRun_38 sh fuel v0 v1 v2 v3 v4 mm = some r → (Z p l e { frames := 1, cells := 0, slots := 0, locals := 24 } s m args below meth c D b 6 (MQ below (zQ D b post) args s 0 0 (fun q => b ≤ q)) (zW tA b sh r.2.2.2.2.2) n 0 0 100 [(0, .ref (b + (r.1))), (1, .int (r.2.1)), (2, .int (r.2.2.1)), (3, .int (r.2.2.2.1)), (4, .int (r.2.2.2.2.1))] []) → Z p l e { frames := 1, cells := 0, slots := 0, locals := 24 } s m args below meth c D b 6 (MQ below (zQ D b post) args s 0 0 (fun q => b ≤ q)) (zW tA b sh mm) n 0 0 38 [(0, .ref (b + v0)), (1, .int v1), (2, .int v2), (3, .int v3), (4, .int v4)] [] := by
  intro fuel
  induction fuel with
  | zero =>
    intro v0 v1 v2 v3 v4 mm r h
    cases h
  | succ fu ih =>
    intro v0 v1 v2 v3 v4 mm r h hx0
    rw [L_XPacker_findRun_38] at h
    refine zr_iload F zd_XPacker_findRun_38 rfl ?_
    refine zr_pcn 40 rfl ?_
    refine zr_iload_n F zd_XPacker_findRun_40 rfl ?_
    refine zr_icmp_ge F 100 zd_XPacker_findRun_41 (by decide) (fun hb19 => ?_) (fun hb19 => ?_)
    ·
      rw [if_pos hb19] at h
      obtain rfl := Option.some.inj h
      refine zr_loc (L' := [(0, .ref (b + v0)), (1, .int v1), (2, .int v2), (3, .int v3), (4, .int v4)]) ⟨rfl, rfl, rfl, rfl, rfl, trivial⟩ ?_
      exact hx0 
    ·
      rw [if_neg hb19] at h
      refine zr_iload_n F zd_XPacker_findRun_44 rfl ?_
      refine zr_if_lt F 100 zd_XPacker_findRun_45 (by decide) (fun hb20 => ?_) (fun hb20 => ?_)
      ·
        rw [if_pos hb20] at h
        obtain rfl := Option.some.inj h
        refine zr_loc (L' := [(0, .ref (b + v0)), (1, .int v1), (2, .int v2), (3, .int v3), (4, .int v4)]) ⟨rfl, rfl, rfl, rfl, rfl, trivial⟩ ?_
        exact hx0 
      ·
        rw [if_neg hb20] at h
        refine zr_aload_n F zd_XPacker_findRun_48 rfl ?_
        obtain ⟨le22, hs21, h⟩ := zoS_s h
        refine zr_get F 4 7 zd_XPacker_findRun_49 (zW_o hs21 (by decide)) rfl (by decide) zw_90 rfl (by rfl) ?_
        refine zr_iload_n F zd_XPacker_findRun_52 rfl ?_
        refine zr_icmp_ge F 100 zd_XPacker_findRun_53 (by decide) (fun hb23 => ?_) (fun hb23 => ?_)
        ·
          rw [if_pos hb23] at h
          obtain rfl := Option.some.inj h
          refine zr_loc (L' := [(0, .ref (b + v0)), (1, .int v1), (2, .int v2), (3, .int v3), (4, .int v4)]) ⟨rfl, rfl, rfl, rfl, rfl, trivial⟩ ?_
          exact hx0 
        ·
          rw [if_neg hb23] at h
          refine zr_pcn 56 rfl ?_
          refine zr_aload_n F zd_XPacker_findRun_56 rfl ?_
          refine zr_iload_n F zd_XPacker_findRun_57 rfl ?_
          refine zr_iload_n F zd_XPacker_findRun_58 rfl ?_
          refine zr_iload_n F zd_XPacker_findRun_59 rfl ?_
          obtain ⟨le25, hs24, h⟩ := zoS_s h
          obtain ⟨p26, ep26, h⟩ := zoB_s h
          refine zr_callV1 F (k_XPacker_sameFrom l D tA b sh _ ep26) zd_XPacker_findRun_60 (zW_o hs24 (by decide)) rfl zs_XPacker_145 rfl zq_XPacker_sameFrom rfl rfl ⟨(Nat.le_of_ble_eq_true rfl), (Nat.le_of_ble_eq_true rfl)⟩ (Nat.le_of_ble_eq_true rfl) ⟨(Nat.le_of_ble_eq_true rfl), (Nat.le_of_ble_eq_true rfl)⟩ ?_
          refine zr_istore F zd_XPacker_findRun_63 (by decide) ?_
          refine zr_iload F zd_XPacker_findRun_65 rfl ?_
          refine zr_aload_n F zd_XPacker_findRun_67 rfl ?_
          refine zr_pcn 68 rfl ?_
          obtain ⟨le28, hs27, h⟩ := zoS_s h
          refine zr_get F 4 7 zd_XPacker_findRun_68 (zW_o hs27 (by decide)) rfl (by decide) zw_90 rfl (by rfl) ?_
          refine zr_icmp_le F 87 zd_XPacker_findRun_71 (by decide) (fun hb29 => ?_) (fun hb29 => ?_)
          ·
            rw [if_pos hb29] at h
            refine zr_aload_n F zd_XPacker_findRun_87 rfl ?_
            obtain ⟨le31, hs30, h⟩ := zoS_s h
            obtain ⟨a32, ea32, h⟩ := zoB_s h
            refine zr_get F 4 6 zd_XPacker_findRun_88 (zW_o hs30 (by decide)) rfl (by decide) zw_89 rfl (by rfl) ?_
            refine zr_tor ea32 ?_
            refine zr_iload_n F zd_XPacker_findRun_91 rfl ?_
            obtain ⟨le34, hs33, h⟩ := zoS_s h
            obtain ⟨hi35, h⟩ := zoI_s h
            refine zr_iald F zd_XPacker_findRun_92 (zW_a0 hs33) hi35 ?_
            obtain ⟨x36, ex36, h⟩ := zoL_s h
            rw [← ex36]
            refine zr_istore_n F zd_XPacker_findRun_93 (by decide) ?_
            refine zr_iinc (v := (v4 + 1)) F zd_XPacker_findRun_94 rfl rfl (by decide) ?_
            refine zr_pcn 97 rfl ?_
            refine zr_goto F 38 zd_XPacker_findRun_97 (by decide) ?_
            refine zr_loc (L' := [(0, .ref (b + v0)), (1, .int v1), (2, .int v2), (3, .int x36), (4, .int (v4 + 1))]) ⟨rfl, rfl, rfl, rfl, rfl, trivial⟩ ?_
            exact ih _ _ _ _ _ _ _ h hx0
          ·
            rw [if_neg hb29] at h
            refine zr_aload_n F zd_XPacker_findRun_74 rfl ?_
            refine zr_iload F zd_XPacker_findRun_75 rfl ?_
            obtain ⟨le38, hs37, h⟩ := zoS_s h
            refine zr_put F 4 7 zd_XPacker_findRun_77 (zW_o hs37 (by decide)) rfl (by decide) zw_90 rfl rfl rfl rfl (by exact (Nat.le_of_ble_eq_true rfl)) ?_
            obtain ⟨mm39, emm39, h⟩ := zoL_s h
            refine zr_norm (zW tA b sh mm39) _ (by rw [emm39]; exact zW_pI (v := (p26.1)) hs37 (by decide) (zf_I_4_7 b _ _ _)) rfl ?_
            refine zr_aload_n F zd_XPacker_findRun_80 rfl ?_
            refine zr_iload_n F zd_XPacker_findRun_81 rfl ?_
            refine zr_iload_n F zd_XPacker_findRun_82 rfl ?_
            refine zr_isub F zd_XPacker_findRun_83 ?_
            refine zr_pcn 84 rfl ?_
            obtain ⟨x40, ex40, h⟩ := zoL_s h
            rw [← ex40]
            obtain ⟨le42, hs41, h⟩ := zoS_s h
            refine zr_put F 4 8 zd_XPacker_findRun_84 (zW_o hs41 (by decide)) rfl (by decide) zw_91 rfl rfl rfl rfl (by exact (Nat.le_of_ble_eq_true rfl)) ?_
            obtain ⟨mm43, emm43, h⟩ := zoL_s h
            refine zr_norm (zW tA b sh mm43) _ (by rw [emm43]; exact zW_pI (v := x40) hs41 (by decide) (zf_I_4_8 b _ _ _)) rfl ?_
            refine zr_aload_n F zd_XPacker_findRun_87 rfl ?_
            obtain ⟨le45, hs44, h⟩ := zoS_s h
            obtain ⟨a46, ea46, h⟩ := zoB_s h
            refine zr_get F 4 6 zd_XPacker_findRun_88 (zW_o hs44 (by decide)) rfl (by decide) zw_89 rfl (by rfl) ?_
            refine zr_tor ea46 ?_
            refine zr_iload_n F zd_XPacker_findRun_91 rfl ?_
            obtain ⟨le48, hs47, h⟩ := zoS_s h
            obtain ⟨hi49, h⟩ := zoI_s h
            refine zr_iald F zd_XPacker_findRun_92 (zW_a0 hs47) hi49 ?_
            obtain ⟨x50, ex50, h⟩ := zoL_s h
            rw [← ex50]
            refine zr_istore_n F zd_XPacker_findRun_93 (by decide) ?_
            refine zr_iinc (v := (v4 + 1)) F zd_XPacker_findRun_94 rfl rfl (by decide) ?_
            refine zr_goto F 38 zd_XPacker_findRun_97 (by decide) ?_
            refine zr_loc (L' := [(0, .ref (b + v0)), (1, .int v1), (2, .int v2), (3, .int x50), (4, .int (v4 + 1))]) ⟨rfl, rfl, rfl, rfl, rfl, trivial⟩ ?_
            exact ih _ _ _ _ _ _ _ h hx0
def F_XPacker_findRun (sh : zSh) (mm : zMem) (o : Nat) (x0_ : Int32) : Option zMem := zoS (sh o) 4 (fun le2 => zoL (zx_min 258 ((mm.1 o 4) - x0_)) (fun x4 => zoS (sh o) 4 (fun le6 => zoL (mI mm o 7 0) (fun mm7 => (if 3 ≤ x4 then zoS (sh o) 4 (fun le10 => Option.bind (mm7.2.2 o 5) (fun a11 => zoS (sh o) 4 (fun le13 => Option.bind (F_XPacker_keyOf sh mm7 o x0_) (fun p14 => zoS (sh a11) 100 (fun le16 => if (p14.1 : Int32) < 0 ∨ le16 ≤ (p14.1 : Int32).toNatClampNeg then none else zoL ((p14.2).1 a11 (p14.1 : Int32).toNatClampNeg) (fun x18 => Option.bind (L_XPacker_findRun_38 sh zfuel o x0_ x4 x18 0 (p14.2)) (fun q51 => some (q51.2.2.2.2.2)))))))) else some mm7)))))
set_option maxHeartbeats 4000000 in
set_option maxRecDepth 100000 in
theorem k_XPacker_findRun (l : Launch) (D : va_G) (tA : Nat → ClassId) (b : Nat) (sh : zSh) (n : Nat) {mm : zMem} {o : Nat} {x0_ : Int32} {r : zMem} (h : F_XPacker_findRun sh mm o x0_ = some r) : zM l D tA b zy_XPacker_findRun zb_XPacker_findRun 6 none 1 24 0 0 [.ref (b + o), .int x0_] (zW tA b sh mm) n (zE none (zW tA b sh r) n) := by
  unfold F_XPacker_findRun at h
  refine zM_of (own := "OrreryBox$Packer") (plainFor_of_name (by decide)) rfl (Nat.le_of_ble_eq_true rfl) (fun p e s m below meth c F hr hin hH => ?_)
  refine zr_sipushv (v := 258) F zd_XPacker_findRun_0 (by decide) ?_
  refine zr_aload_n F zd_XPacker_findRun_3 rfl ?_
  obtain ⟨le2, hs1, h⟩ := zoS_s h
  refine zr_get F 4 4 zd_XPacker_findRun_4 (zW_o hs1 (by decide)) rfl (by decide) zw_87 rfl (by rfl) ?_
  refine zr_iload_n F zd_XPacker_findRun_7 rfl ?_
  refine zr_isub F zd_XPacker_findRun_8 ?_
  refine zr_callS1 F (c_JMath_min l D tA b _ _ 258 ((mm.1 o 4) - x0_)) zd_XPacker_findRun_9 zs_XPacker_82 zq_JMath_min rfl rfl ⟨(Nat.le_of_ble_eq_true rfl), (Nat.le_of_ble_eq_true rfl)⟩ (Nat.le_of_ble_eq_true rfl) ⟨(Nat.le_of_ble_eq_true rfl), (Nat.le_of_ble_eq_true rfl)⟩ ?_
  obtain ⟨x4, ex4, h⟩ := zoL_s h
  rw [← ex4]
  refine zr_istore_n F zd_XPacker_findRun_12 (by decide) ?_
  refine zr_pcn 13 rfl ?_
  refine zr_aload_n F zd_XPacker_findRun_13 rfl ?_
  refine zr_iconstv (v := 0) F zd_XPacker_findRun_14 (by decide) ?_
  obtain ⟨le6, hs5, h⟩ := zoS_s h
  refine zr_put F 4 7 zd_XPacker_findRun_15 (zW_o hs5 (by decide)) rfl (by decide) zw_90 rfl rfl rfl rfl (by exact (Nat.le_of_ble_eq_true rfl)) ?_
  obtain ⟨mm7, emm7, h⟩ := zoL_s h
  refine zr_norm (zW tA b sh mm7) _ (by rw [emm7]; exact zW_pI (v := 0) hs5 (by decide) (zf_I_4_7 b _ _ _)) rfl ?_
  refine zr_iload_n F zd_XPacker_findRun_18 rfl ?_
  refine zr_iconstv (v := 3) F zd_XPacker_findRun_19 (by decide) ?_
  refine zr_icmp_ge F 24 zd_XPacker_findRun_20 (by decide) (fun hb8 => ?_) (fun hb8 => ?_)
  ·
    rw [if_pos hb8] at h
    refine zr_aload_n F zd_XPacker_findRun_24 rfl ?_
    obtain ⟨le10, hs9, h⟩ := zoS_s h
    obtain ⟨a11, ea11, h⟩ := zoB_s h
    refine zr_get F 4 5 zd_XPacker_findRun_25 (zW_o hs9 (by decide)) rfl (by decide) zw_88 rfl (by rfl) ?_
    refine zr_tor ea11 ?_
    refine zr_pcn 28 rfl ?_
    refine zr_aload_n F zd_XPacker_findRun_28 rfl ?_
    refine zr_iload_n F zd_XPacker_findRun_29 rfl ?_
    obtain ⟨le13, hs12, h⟩ := zoS_s h
    obtain ⟨p14, ep14, h⟩ := zoB_s h
    refine zr_callV1 F (k_XPacker_keyOf l D tA b sh _ ep14) zd_XPacker_findRun_30 (zW_o hs12 (by decide)) rfl zs_XPacker_142 rfl zq_XPacker_keyOf rfl rfl ⟨(Nat.le_of_ble_eq_true rfl), (Nat.le_of_ble_eq_true rfl)⟩ (Nat.le_of_ble_eq_true rfl) ⟨(Nat.le_of_ble_eq_true rfl), (Nat.le_of_ble_eq_true rfl)⟩ ?_
    obtain ⟨le16, hs15, h⟩ := zoS_s h
    obtain ⟨hi17, h⟩ := zoI_s h
    refine zr_iald F zd_XPacker_findRun_33 (zW_a0 hs15) hi17 ?_
    obtain ⟨x18, ex18, h⟩ := zoL_s h
    rw [← ex18]
    refine zr_istore_n F zd_XPacker_findRun_34 (by decide) ?_
    refine zr_iconstv (v := 0) F zd_XPacker_findRun_35 (by decide) ?_
    refine zr_istore F zd_XPacker_findRun_36 (by decide) ?_
    obtain ⟨q51, eq51, h⟩ := zoB_s h
    refine zr_loc (L' := [(0, .ref (b + o)), (1, .int x0_), (2, .int x4), (3, .int x18), (4, .int 0)]) ⟨rfl, rfl, rfl, rfl, rfl, trivial⟩ ?_
    refine lp_XPacker_findRun_38 F _ _ _ _ _ _ _ _ eq51 ?_
    ·
      refine zr_pcn 100 rfl ?_
      obtain rfl := Option.some.inj h
      exact zr_vret F hr zd_XPacker_findRun_100 (Nat.le_of_ble_eq_true rfl) (Nat.le_of_ble_eq_true rfl) ⟨rfl, rfl, rfl⟩
  ·
    rw [if_neg hb8] at h
    obtain rfl := Option.some.inj h
    exact zr_vret F hr zd_XPacker_findRun_23 (Nat.le_of_ble_eq_true rfl) (Nat.le_of_ble_eq_true rfl) ⟨rfl, rfl, rfl⟩
abbrev zb_XPacker_remember : ByteArray := prog_5_method_18_code
def zy_XPacker_remember : MethodName := ⟨"OrreryBox$Packer", "remember", "(I)V"⟩
theorem zc_XPacker_remember : Cond.code zy_XPacker_remember zb_XPacker_remember 3 none ∈ gw := gw_t 1051 (by decide +kernel) rfl
theorem zq_XPacker_remember : zy_XPacker_remember.cls ≠ "java/lang/invoke/MethodHandle" ∧ zy_XPacker_remember.cls ≠ "java/lang/invoke/VarHandle" ∧ (parseMethodDescriptor zy_XPacker_remember.desc).map (fun d => d.parameters.length) = some 1 := by decide +kernel
theorem zd_XPacker_remember_0 : decode zb_XPacker_remember 0 = .ok (.iload_n 1, 1) := by decide +kernel
theorem zd_XPacker_remember_1 : decode zb_XPacker_remember 1 = .ok (.iconst 2, 1) := by decide +kernel
theorem zd_XPacker_remember_2 : decode zb_XPacker_remember 2 = .ok (.iadd, 1) := by decide +kernel
theorem zd_XPacker_remember_3 : decode zb_XPacker_remember 3 = .ok (.aload_n 0, 1) := by decide +kernel
theorem zd_XPacker_remember_4 : decode zb_XPacker_remember 4 = .ok (.getfield 70, 3) := by decide +kernel
theorem zd_XPacker_remember_7 : decode zb_XPacker_remember 7 = .ok (.if_icmp .ge 28, 3) := by decide +kernel
theorem zd_XPacker_remember_10 : decode zb_XPacker_remember 10 = .ok (.aload_n 0, 1) := by decide +kernel
theorem zd_XPacker_remember_11 : decode zb_XPacker_remember 11 = .ok (.iload_n 1, 1) := by decide +kernel
theorem zd_XPacker_remember_12 : decode zb_XPacker_remember 12 = .ok (.invokevirtual 142, 3) := by decide +kernel
theorem zd_XPacker_remember_15 : decode zb_XPacker_remember 15 = .ok (.istore_n 2, 1) := by decide +kernel
theorem zd_XPacker_remember_16 : decode zb_XPacker_remember 16 = .ok (.aload_n 0, 1) := by decide +kernel
theorem zd_XPacker_remember_17 : decode zb_XPacker_remember 17 = .ok (.getfield 25, 3) := by decide +kernel
theorem zd_XPacker_remember_20 : decode zb_XPacker_remember 20 = .ok (.iload_n 1, 1) := by decide +kernel
theorem zd_XPacker_remember_21 : decode zb_XPacker_remember 21 = .ok (.aload_n 0, 1) := by decide +kernel
theorem zd_XPacker_remember_22 : decode zb_XPacker_remember 22 = .ok (.getfield 22, 3) := by decide +kernel
theorem zd_XPacker_remember_25 : decode zb_XPacker_remember 25 = .ok (.iload_n 2, 1) := by decide +kernel
theorem zd_XPacker_remember_26 : decode zb_XPacker_remember 26 = .ok (.iaload, 1) := by decide +kernel
theorem zd_XPacker_remember_27 : decode zb_XPacker_remember 27 = .ok (.iastore, 1) := by decide +kernel
theorem zd_XPacker_remember_28 : decode zb_XPacker_remember 28 = .ok (.aload_n 0, 1) := by decide +kernel
theorem zd_XPacker_remember_29 : decode zb_XPacker_remember 29 = .ok (.getfield 22, 3) := by decide +kernel
theorem zd_XPacker_remember_32 : decode zb_XPacker_remember 32 = .ok (.iload_n 2, 1) := by decide +kernel
theorem zd_XPacker_remember_33 : decode zb_XPacker_remember 33 = .ok (.iload_n 1, 1) := by decide +kernel
theorem zd_XPacker_remember_34 : decode zb_XPacker_remember 34 = .ok (.iastore, 1) := by decide +kernel
theorem zd_XPacker_remember_35 : decode zb_XPacker_remember 35 = .ok (.return_, 1) := by decide +kernel
def F_XPacker_remember (sh : zSh) (mm : zMem) (o : Nat) (x0_ : Int32) : Option zMem := zoS (sh o) 4 (fun le2 => (if (mm.1 o 4) ≤ (x0_ + 2) then some mm else zoS (sh o) 4 (fun le5 => Option.bind (F_XPacker_keyOf sh mm o x0_) (fun p6 => zoS (sh o) 4 (fun le8 => Option.bind ((p6.2).2.2 o 6) (fun a9 => zoS (sh o) 4 (fun le11 => Option.bind ((p6.2).2.2 o 5) (fun a12 => zoS (sh a12) 100 (fun le14 => if (p6.1 : Int32) < 0 ∨ le14 ≤ (p6.1 : Int32).toNatClampNeg then none else zoL ((p6.2).1 a12 (p6.1 : Int32).toNatClampNeg) (fun x16 => zoS (sh a9) 100 (fun le18 => if (x0_ : Int32) < 0 ∨ le18 ≤ (x0_ : Int32).toNatClampNeg then none else zoL (mI (p6.2) a9 (x0_ : Int32).toNatClampNeg x16) (fun mm20 => zoS (sh o) 4 (fun le22 => Option.bind (mm20.2.2 o 5) (fun a23 => zoS (sh a23) 100 (fun le25 => if (p6.1 : Int32) < 0 ∨ le25 ≤ (p6.1 : Int32).toNatClampNeg then none else zoL (mI mm20 a23 (p6.1 : Int32).toNatClampNeg x0_) (fun mm27 => some mm27))))))))))))))))
set_option maxHeartbeats 4000000 in
set_option maxRecDepth 100000 in
theorem k_XPacker_remember (l : Launch) (D : va_G) (tA : Nat → ClassId) (b : Nat) (sh : zSh) (n : Nat) {mm : zMem} {o : Nat} {x0_ : Int32} {r : zMem} (h : F_XPacker_remember sh mm o x0_ = some r) : zM l D tA b zy_XPacker_remember zb_XPacker_remember 3 none 1 21 0 0 [.ref (b + o), .int x0_] (zW tA b sh mm) n (zE none (zW tA b sh r) n) := by
  unfold F_XPacker_remember at h
  refine zM_of (own := "OrreryBox$Packer") (plainFor_of_name (by decide)) rfl (Nat.le_of_ble_eq_true rfl) (fun p e s m below meth c F hr hin hH => ?_)
  refine zr_iload_n F zd_XPacker_remember_0 rfl ?_
  refine zr_iconstv (v := 2) F zd_XPacker_remember_1 (by decide) ?_
  refine zr_iadd F zd_XPacker_remember_2 ?_
  refine zr_aload_n F zd_XPacker_remember_3 rfl ?_
  obtain ⟨le2, hs1, h⟩ := zoS_s h
  refine zr_get F 4 4 zd_XPacker_remember_4 (zW_o hs1 (by decide)) rfl (by decide) zw_87 rfl (by rfl) ?_
  refine zr_icmp_ge F 35 zd_XPacker_remember_7 (by decide) (fun hb3 => ?_) (fun hb3 => ?_)
  ·
    rw [if_pos hb3] at h
    obtain rfl := Option.some.inj h
    exact zr_vret F hr zd_XPacker_remember_35 (Nat.le_of_ble_eq_true rfl) (Nat.le_of_ble_eq_true rfl) ⟨rfl, rfl, rfl⟩
  ·
    rw [if_neg hb3] at h
    refine zr_pcn 10 rfl ?_
    refine zr_aload_n F zd_XPacker_remember_10 rfl ?_
    refine zr_iload_n F zd_XPacker_remember_11 rfl ?_
    obtain ⟨le5, hs4, h⟩ := zoS_s h
    obtain ⟨p6, ep6, h⟩ := zoB_s h
    refine zr_callV1 F (k_XPacker_keyOf l D tA b sh _ ep6) zd_XPacker_remember_12 (zW_o hs4 (by decide)) rfl zs_XPacker_142 rfl zq_XPacker_keyOf rfl rfl ⟨(Nat.le_of_ble_eq_true rfl), (Nat.le_of_ble_eq_true rfl)⟩ (Nat.le_of_ble_eq_true rfl) ⟨(Nat.le_of_ble_eq_true rfl), (Nat.le_of_ble_eq_true rfl)⟩ ?_
    refine zr_istore_n F zd_XPacker_remember_15 (by decide) ?_
    refine zr_aload_n F zd_XPacker_remember_16 rfl ?_
    obtain ⟨le8, hs7, h⟩ := zoS_s h
    obtain ⟨a9, ea9, h⟩ := zoB_s h
    refine zr_get F 4 6 zd_XPacker_remember_17 (zW_o hs7 (by decide)) rfl (by decide) zw_89 rfl (by rfl) ?_
    refine zr_tor ea9 ?_
    refine zr_iload_n F zd_XPacker_remember_20 rfl ?_
    refine zr_aload_n F zd_XPacker_remember_21 rfl ?_
    refine zr_pcn 22 rfl ?_
    obtain ⟨le11, hs10, h⟩ := zoS_s h
    obtain ⟨a12, ea12, h⟩ := zoB_s h
    refine zr_get F 4 5 zd_XPacker_remember_22 (zW_o hs10 (by decide)) rfl (by decide) zw_88 rfl (by rfl) ?_
    refine zr_tor ea12 ?_
    refine zr_iload_n F zd_XPacker_remember_25 rfl ?_
    obtain ⟨le14, hs13, h⟩ := zoS_s h
    obtain ⟨hi15, h⟩ := zoI_s h
    refine zr_iald F zd_XPacker_remember_26 (zW_a0 hs13) hi15 ?_
    obtain ⟨x16, ex16, h⟩ := zoL_s h
    rw [← ex16]
    obtain ⟨le18, hs17, h⟩ := zoS_s h
    obtain ⟨hi19, h⟩ := zoI_s h
    refine zr_iast F zd_XPacker_remember_27 (zW_a0 hs17) hi19 ?_
    obtain ⟨mm20, emm20, h⟩ := zoL_s h
    refine zr_norm (zW tA b sh mm20) _ (by rw [emm20]; exact zW_s0 hs17) rfl ?_
    refine zr_aload_n F zd_XPacker_remember_28 rfl ?_
    obtain ⟨le22, hs21, h⟩ := zoS_s h
    obtain ⟨a23, ea23, h⟩ := zoB_s h
    refine zr_get F 4 5 zd_XPacker_remember_29 (zW_o hs21 (by decide)) rfl (by decide) zw_88 rfl (by rfl) ?_
    refine zr_tor ea23 ?_
    refine zr_iload_n F zd_XPacker_remember_32 rfl ?_
    refine zr_iload_n F zd_XPacker_remember_33 rfl ?_
    refine zr_pcn 34 rfl ?_
    obtain ⟨le25, hs24, h⟩ := zoS_s h
    obtain ⟨hi26, h⟩ := zoI_s h
    refine zr_iast F zd_XPacker_remember_34 (zW_a0 hs24) hi26 ?_
    obtain ⟨mm27, emm27, h⟩ := zoL_s h
    refine zr_norm (zW tA b sh mm27) _ (by rw [emm27]; exact zW_s0 hs24) rfl ?_
    obtain rfl := Option.some.inj h
    exact zr_vret F hr zd_XPacker_remember_35 (Nat.le_of_ble_eq_true rfl) (Nat.le_of_ble_eq_true rfl) ⟨rfl, rfl, rfl⟩
abbrev zb_XPacker_putHighFirst : ByteArray := prog_5_method_23_code
def zy_XPacker_putHighFirst : MethodName := ⟨"OrreryBox$Packer", "putHighFirst", "(II)V"⟩
theorem zc_XPacker_putHighFirst : Cond.code zy_XPacker_putHighFirst zb_XPacker_putHighFirst 4 none ∈ gw := gw_t 1043 (by decide +kernel) rfl
theorem zq_XPacker_putHighFirst : zy_XPacker_putHighFirst.cls ≠ "java/lang/invoke/MethodHandle" ∧ zy_XPacker_putHighFirst.cls ≠ "java/lang/invoke/VarHandle" ∧ (parseMethodDescriptor zy_XPacker_putHighFirst.desc).map (fun d => d.parameters.length) = some 2 := by decide +kernel
theorem zd_XPacker_putHighFirst_0 : decode zb_XPacker_putHighFirst 0 = .ok (.iload_n 2, 1) := by decide +kernel
theorem zd_XPacker_putHighFirst_1 : decode zb_XPacker_putHighFirst 1 = .ok (.iconst 1, 1) := by decide +kernel
theorem zd_XPacker_putHighFirst_2 : decode zb_XPacker_putHighFirst 2 = .ok (.isub, 1) := by decide +kernel
theorem zd_XPacker_putHighFirst_3 : decode zb_XPacker_putHighFirst 3 = .ok (.istore_n 3, 1) := by decide +kernel
theorem zd_XPacker_putHighFirst_4 : decode zb_XPacker_putHighFirst 4 = .ok (.iload_n 3, 1) := by decide +kernel
theorem zd_XPacker_putHighFirst_5 : decode zb_XPacker_putHighFirst 5 = .ok (.ifCond .lt 18, 3) := by decide +kernel
theorem zd_XPacker_putHighFirst_8 : decode zb_XPacker_putHighFirst 8 = .ok (.aload_n 0, 1) := by decide +kernel
theorem zd_XPacker_putHighFirst_9 : decode zb_XPacker_putHighFirst 9 = .ok (.iload_n 1, 1) := by decide +kernel
theorem zd_XPacker_putHighFirst_10 : decode zb_XPacker_putHighFirst 10 = .ok (.iload_n 3, 1) := by decide +kernel
theorem zd_XPacker_putHighFirst_11 : decode zb_XPacker_putHighFirst 11 = .ok (.ishr, 1) := by decide +kernel
theorem zd_XPacker_putHighFirst_12 : decode zb_XPacker_putHighFirst 12 = .ok (.iconst 1, 1) := by decide +kernel
theorem zd_XPacker_putHighFirst_13 : decode zb_XPacker_putHighFirst 13 = .ok (.iand, 1) := by decide +kernel
theorem zd_XPacker_putHighFirst_14 : decode zb_XPacker_putHighFirst 14 = .ok (.invokevirtual 151, 3) := by decide +kernel
theorem zd_XPacker_putHighFirst_17 : decode zb_XPacker_putHighFirst 17 = .ok (.iinc 3 (-1), 3) := by decide +kernel
theorem zd_XPacker_putHighFirst_20 : decode zb_XPacker_putHighFirst 20 = .ok (.goto (-16), 3) := by decide +kernel
theorem zd_XPacker_putHighFirst_23 : decode zb_XPacker_putHighFirst 23 = .ok (.return_, 1) := by decide +kernel
theorem zw_1016 : (Jvm.Cond.methodLink "OrreryBox$Packer" (151 : Nat) ({ cls := "OrreryBox$Packer", name := "putBit", desc := "(I)V" } : Jvm.MethodName)) ∈ gw := gw_t 1016 (by decide +kernel) rfl
theorem zw_1018 : (Jvm.Cond.instanceMethod ({ cls := "OrreryBox$Packer", name := "putBit", desc := "(I)V" } : Jvm.MethodName)) ∈ gw := gw_t 1018 (by decide +kernel) rfl
theorem zv_36 : (Jvm.Cond.selects "OrreryBox$Packer" (⟨"OrreryBox$Packer", "putBit", "(I)V"⟩ : MethodName) ⟨"OrreryBox$Packer", "putBit", "(I)V"⟩) ∈ gw := gw_s 36 (by decide +kernel) rfl
theorem zs_XPacker_151 : zwV "OrreryBox$Packer" 151 "OrreryBox$Packer" zy_XPacker_putBit zb_XPacker_putBit 2 none := ⟨zw_1016, zw_1018, zv_36, zw_3, zc_XPacker_putBit⟩
def L_XPacker_putHighFirst_4 (sh : zSh) (fuel : Nat) (v0 : Nat) (v1 : Int32) (v3 : Int32) (mm : zMem) : Option (Nat × Int32 × Int32 × zMem) := match fuel with
  | 0 => none
  | fu + 1 => (if v3 < 0 then some (v0, v1, v3, mm) else zoS (sh v0) 4 (fun le4 => Option.bind (F_XPacker_putBit sh mm v0 ((v1 >>> (v3 &&& 31)) &&& 1)) (fun p5 => L_XPacker_putHighFirst_4 sh fu v0 v1 (v3 + (-1)) p5)))
set_option maxHeartbeats 4000000 in
set_option maxRecDepth 100000 in
theorem lp_XPacker_putHighFirst_4 {p : Program} {l : Launch} {e : Env} {s : State} {m : MethodId} {args : Array Value} {below : List Frame} {meth : Method} {c : Code} {D : va_G} {tA : Nat → ClassId} {b n : Nat} {post : Option Value → zV → Nat → Prop} {sh : zSh} (F : zF p s m args meth c zb_XPacker_putHighFirst 4 "OrreryBox$Packer" D tA b) : ∀ (fuel : Nat) (v0 : Nat) (v1 : Int32) (v3 : Int32) (mm : zMem) (r : Nat × Int32 × Int32 × zMem), L_XPacker_putHighFirst_4 sh fuel v0 v1 v3 mm = some r → (Z p l e { frames := 1, cells := 0, slots := 0, locals := 21 } s m args below meth c D b 4 (MQ below (zQ D b post) args s 0 0 (fun q => b ≤ q)) (zW tA b sh r.2.2.2) n 0 0 23 [(0, .ref (b + (r.1))), (1, .int (r.2.1)), (3, .int (r.2.2.1))] []) → Z p l e { frames := 1, cells := 0, slots := 0, locals := 21 } s m args below meth c D b 4 (MQ below (zQ D b post) args s 0 0 (fun q => b ≤ q)) (zW tA b sh mm) n 0 0 4 [(0, .ref (b + v0)), (1, .int v1), (3, .int v3)] [] := by
  intro fuel
  induction fuel with
  | zero =>
    intro v0 v1 v3 mm r h
    cases h
  | succ fu ih =>
    intro v0 v1 v3 mm r h hx0
    rw [L_XPacker_putHighFirst_4] at h
    refine zr_iload_n F zd_XPacker_putHighFirst_4 rfl ?_
    refine zr_if_lt F 23 zd_XPacker_putHighFirst_5 (by decide) (fun hb2 => ?_) (fun hb2 => ?_)
    ·
      rw [if_pos hb2] at h
      obtain rfl := Option.some.inj h
      refine zr_loc (L' := [(0, .ref (b + v0)), (1, .int v1), (3, .int v3)]) ⟨rfl, rfl, rfl, trivial⟩ ?_
      exact hx0 
    ·
      rw [if_neg hb2] at h
      refine zr_aload_n F zd_XPacker_putHighFirst_8 rfl ?_
      refine zr_pcn 9 rfl ?_
      refine zr_iload_n F zd_XPacker_putHighFirst_9 rfl ?_
      refine zr_iload_n F zd_XPacker_putHighFirst_10 rfl ?_
      refine zr_ishr F zd_XPacker_putHighFirst_11 ?_
      refine zr_iconstv (v := 1) F zd_XPacker_putHighFirst_12 (by decide) ?_
      refine zr_iand F zd_XPacker_putHighFirst_13 ?_
      obtain ⟨le4, hs3, h⟩ := zoS_s h
      obtain ⟨p5, ep5, h⟩ := zoB_s h
      refine zr_callV0 F (k_XPacker_putBit l D tA b sh _ ep5) zd_XPacker_putHighFirst_14 (zW_o hs3 (by decide)) rfl zs_XPacker_151 rfl zq_XPacker_putBit rfl rfl ⟨(Nat.le_of_ble_eq_true rfl), (Nat.le_of_ble_eq_true rfl)⟩ (Nat.le_of_ble_eq_true rfl) ⟨(Nat.le_of_ble_eq_true rfl), (Nat.le_of_ble_eq_true rfl)⟩ ?_
      refine zr_iinc (v := (v3 + (-1))) F zd_XPacker_putHighFirst_17 rfl rfl (by decide) ?_
      refine zr_goto F 4 zd_XPacker_putHighFirst_20 (by decide) ?_
      refine zr_loc (L' := [(0, .ref (b + v0)), (1, .int v1), (3, .int (v3 + (-1)))]) ⟨rfl, rfl, rfl, trivial⟩ ?_
      exact ih _ _ _ _ _ h hx0
def F_XPacker_putHighFirst (sh : zSh) (mm : zMem) (o : Nat) (x0_ : Int32) (x1_ : Int32) : Option zMem := zoL (x1_ - 1) (fun x1 => Option.bind (L_XPacker_putHighFirst_4 sh zfuel o x0_ x1 mm) (fun q6 => some (q6.2.2.2)))
set_option maxHeartbeats 4000000 in
set_option maxRecDepth 100000 in
theorem k_XPacker_putHighFirst (l : Launch) (D : va_G) (tA : Nat → ClassId) (b : Nat) (sh : zSh) (n : Nat) {mm : zMem} {o : Nat} {x0_ : Int32} {x1_ : Int32} {r : zMem} (h : F_XPacker_putHighFirst sh mm o x0_ x1_ = some r) : zM l D tA b zy_XPacker_putHighFirst zb_XPacker_putHighFirst 4 none 1 21 0 0 [.ref (b + o), .int x0_, .int x1_] (zW tA b sh mm) n (zE none (zW tA b sh r) n) := by
  unfold F_XPacker_putHighFirst at h
  refine zM_of (own := "OrreryBox$Packer") (plainFor_of_name (by decide)) rfl (Nat.le_of_ble_eq_true rfl) (fun p e s m below meth c F hr hin hH => ?_)
  refine zr_iload_n F zd_XPacker_putHighFirst_0 rfl ?_
  refine zr_iconstv (v := 1) F zd_XPacker_putHighFirst_1 (by decide) ?_
  refine zr_isub F zd_XPacker_putHighFirst_2 ?_
  obtain ⟨x1, ex1, h⟩ := zoL_s h
  rw [← ex1]
  refine zr_istore_n F zd_XPacker_putHighFirst_3 (by decide) ?_
  obtain ⟨q6, eq6, h⟩ := zoB_s h
  refine zr_loc (L' := [(0, .ref (b + o)), (1, .int x0_), (3, .int x1)]) ⟨rfl, rfl, rfl, trivial⟩ ?_
  refine lp_XPacker_putHighFirst_4 F _ _ _ _ _ _ eq6 ?_
  ·
    refine zr_pcn 23 rfl ?_
    obtain rfl := Option.some.inj h
    exact zr_vret F hr zd_XPacker_putHighFirst_23 (Nat.le_of_ble_eq_true rfl) (Nat.le_of_ble_eq_true rfl) ⟨rfl, rfl, rfl⟩
abbrev zb_XPacker_putLowFirst : ByteArray := prog_5_method_24_code
def zy_XPacker_putLowFirst : MethodName := ⟨"OrreryBox$Packer", "putLowFirst", "(II)V"⟩
theorem zc_XPacker_putLowFirst : Cond.code zy_XPacker_putLowFirst zb_XPacker_putLowFirst 4 none ∈ gw := gw_t 1015 (by decide +kernel) rfl
theorem zq_XPacker_putLowFirst : zy_XPacker_putLowFirst.cls ≠ "java/lang/invoke/MethodHandle" ∧ zy_XPacker_putLowFirst.cls ≠ "java/lang/invoke/VarHandle" ∧ (parseMethodDescriptor zy_XPacker_putLowFirst.desc).map (fun d => d.parameters.length) = some 2 := by decide +kernel
theorem zd_XPacker_putLowFirst_0 : decode zb_XPacker_putLowFirst 0 = .ok (.iconst 0, 1) := by decide +kernel
theorem zd_XPacker_putLowFirst_1 : decode zb_XPacker_putLowFirst 1 = .ok (.istore_n 3, 1) := by decide +kernel
theorem zd_XPacker_putLowFirst_2 : decode zb_XPacker_putLowFirst 2 = .ok (.iload_n 3, 1) := by decide +kernel
theorem zd_XPacker_putLowFirst_3 : decode zb_XPacker_putLowFirst 3 = .ok (.iload_n 2, 1) := by decide +kernel
theorem zd_XPacker_putLowFirst_4 : decode zb_XPacker_putLowFirst 4 = .ok (.if_icmp .ge 18, 3) := by decide +kernel
theorem zd_XPacker_putLowFirst_7 : decode zb_XPacker_putLowFirst 7 = .ok (.aload_n 0, 1) := by decide +kernel
theorem zd_XPacker_putLowFirst_8 : decode zb_XPacker_putLowFirst 8 = .ok (.iload_n 1, 1) := by decide +kernel
theorem zd_XPacker_putLowFirst_9 : decode zb_XPacker_putLowFirst 9 = .ok (.iload_n 3, 1) := by decide +kernel
theorem zd_XPacker_putLowFirst_10 : decode zb_XPacker_putLowFirst 10 = .ok (.ishr, 1) := by decide +kernel
theorem zd_XPacker_putLowFirst_11 : decode zb_XPacker_putLowFirst 11 = .ok (.iconst 1, 1) := by decide +kernel
theorem zd_XPacker_putLowFirst_12 : decode zb_XPacker_putLowFirst 12 = .ok (.iand, 1) := by decide +kernel
theorem zd_XPacker_putLowFirst_13 : decode zb_XPacker_putLowFirst 13 = .ok (.invokevirtual 151, 3) := by decide +kernel
theorem zd_XPacker_putLowFirst_16 : decode zb_XPacker_putLowFirst 16 = .ok (.iinc 3 1, 3) := by decide +kernel
theorem zd_XPacker_putLowFirst_19 : decode zb_XPacker_putLowFirst 19 = .ok (.goto (-17), 3) := by decide +kernel
theorem zd_XPacker_putLowFirst_22 : decode zb_XPacker_putLowFirst 22 = .ok (.return_, 1) := by decide +kernel
def L_XPacker_putLowFirst_2 (sh : zSh) (fuel : Nat) (v0 : Nat) (v1 : Int32) (v2 : Int32) (v3 : Int32) (mm : zMem) : Option (Nat × Int32 × Int32 × Int32 × zMem) := match fuel with
  | 0 => none
  | fu + 1 => (if v2 ≤ v3 then some (v0, v1, v2, v3, mm) else zoS (sh v0) 4 (fun le3 => Option.bind (F_XPacker_putBit sh mm v0 ((v1 >>> (v3 &&& 31)) &&& 1)) (fun p4 => L_XPacker_putLowFirst_2 sh fu v0 v1 v2 (v3 + 1) p4)))
set_option maxHeartbeats 4000000 in
set_option maxRecDepth 100000 in
theorem lp_XPacker_putLowFirst_2 {p : Program} {l : Launch} {e : Env} {s : State} {m : MethodId} {args : Array Value} {below : List Frame} {meth : Method} {c : Code} {D : va_G} {tA : Nat → ClassId} {b n : Nat} {post : Option Value → zV → Nat → Prop} {sh : zSh} (F : zF p s m args meth c zb_XPacker_putLowFirst 4 "OrreryBox$Packer" D tA b) : ∀ (fuel : Nat) (v0 : Nat) (v1 : Int32) (v2 : Int32) (v3 : Int32) (mm : zMem) (r : Nat × Int32 × Int32 × Int32 × zMem), L_XPacker_putLowFirst_2 sh fuel v0 v1 v2 v3 mm = some r → (Z p l e { frames := 1, cells := 0, slots := 0, locals := 21 } s m args below meth c D b 4 (MQ below (zQ D b post) args s 0 0 (fun q => b ≤ q)) (zW tA b sh r.2.2.2.2) n 0 0 22 [(0, .ref (b + (r.1))), (1, .int (r.2.1)), (2, .int (r.2.2.1)), (3, .int (r.2.2.2.1))] []) → Z p l e { frames := 1, cells := 0, slots := 0, locals := 21 } s m args below meth c D b 4 (MQ below (zQ D b post) args s 0 0 (fun q => b ≤ q)) (zW tA b sh mm) n 0 0 2 [(0, .ref (b + v0)), (1, .int v1), (2, .int v2), (3, .int v3)] [] := by
  intro fuel
  induction fuel with
  | zero =>
    intro v0 v1 v2 v3 mm r h
    cases h
  | succ fu ih =>
    intro v0 v1 v2 v3 mm r h hx0
    rw [L_XPacker_putLowFirst_2] at h
    refine zr_iload_n F zd_XPacker_putLowFirst_2 rfl ?_
    refine zr_iload_n F zd_XPacker_putLowFirst_3 rfl ?_
    refine zr_icmp_ge F 22 zd_XPacker_putLowFirst_4 (by decide) (fun hb1 => ?_) (fun hb1 => ?_)
    ·
      rw [if_pos hb1] at h
      obtain rfl := Option.some.inj h
      refine zr_loc (L' := [(0, .ref (b + v0)), (1, .int v1), (2, .int v2), (3, .int v3)]) ⟨rfl, rfl, rfl, rfl, trivial⟩ ?_
      exact hx0 
    ·
      rw [if_neg hb1] at h
      refine zr_aload_n F zd_XPacker_putLowFirst_7 rfl ?_
      refine zr_iload_n F zd_XPacker_putLowFirst_8 rfl ?_
      refine zr_pcn 9 rfl ?_
      refine zr_iload_n F zd_XPacker_putLowFirst_9 rfl ?_
      refine zr_ishr F zd_XPacker_putLowFirst_10 ?_
      refine zr_iconstv (v := 1) F zd_XPacker_putLowFirst_11 (by decide) ?_
      refine zr_iand F zd_XPacker_putLowFirst_12 ?_
      obtain ⟨le3, hs2, h⟩ := zoS_s h
      obtain ⟨p4, ep4, h⟩ := zoB_s h
      refine zr_callV0 F (k_XPacker_putBit l D tA b sh _ ep4) zd_XPacker_putLowFirst_13 (zW_o hs2 (by decide)) rfl zs_XPacker_151 rfl zq_XPacker_putBit rfl rfl ⟨(Nat.le_of_ble_eq_true rfl), (Nat.le_of_ble_eq_true rfl)⟩ (Nat.le_of_ble_eq_true rfl) ⟨(Nat.le_of_ble_eq_true rfl), (Nat.le_of_ble_eq_true rfl)⟩ ?_
      refine zr_iinc (v := (v3 + 1)) F zd_XPacker_putLowFirst_16 rfl rfl (by decide) ?_
      refine zr_goto F 2 zd_XPacker_putLowFirst_19 (by decide) ?_
      refine zr_loc (L' := [(0, .ref (b + v0)), (1, .int v1), (2, .int v2), (3, .int (v3 + 1))]) ⟨rfl, rfl, rfl, rfl, trivial⟩ ?_
      exact ih _ _ _ _ _ _ h hx0
def F_XPacker_putLowFirst (sh : zSh) (mm : zMem) (o : Nat) (x0_ : Int32) (x1_ : Int32) : Option zMem := Option.bind (L_XPacker_putLowFirst_2 sh zfuel o x0_ x1_ 0 mm) (fun q5 => some (q5.2.2.2.2))
set_option maxHeartbeats 4000000 in
set_option maxRecDepth 100000 in
theorem k_XPacker_putLowFirst (l : Launch) (D : va_G) (tA : Nat → ClassId) (b : Nat) (sh : zSh) (n : Nat) {mm : zMem} {o : Nat} {x0_ : Int32} {x1_ : Int32} {r : zMem} (h : F_XPacker_putLowFirst sh mm o x0_ x1_ = some r) : zM l D tA b zy_XPacker_putLowFirst zb_XPacker_putLowFirst 4 none 1 21 0 0 [.ref (b + o), .int x0_, .int x1_] (zW tA b sh mm) n (zE none (zW tA b sh r) n) := by
  unfold F_XPacker_putLowFirst at h
  refine zM_of (own := "OrreryBox$Packer") (plainFor_of_name (by decide)) rfl (Nat.le_of_ble_eq_true rfl) (fun p e s m below meth c F hr hin hH => ?_)
  refine zr_iconstv (v := 0) F zd_XPacker_putLowFirst_0 (by decide) ?_
  refine zr_istore_n F zd_XPacker_putLowFirst_1 (by decide) ?_
  obtain ⟨q5, eq5, h⟩ := zoB_s h
  refine zr_loc (L' := [(0, .ref (b + o)), (1, .int x0_), (2, .int x1_), (3, .int 0)]) ⟨rfl, rfl, rfl, rfl, trivial⟩ ?_
  refine lp_XPacker_putLowFirst_2 F _ _ _ _ _ _ _ eq5 ?_
  ·
    obtain rfl := Option.some.inj h
    exact zr_vret F hr zd_XPacker_putLowFirst_22 (Nat.le_of_ble_eq_true rfl) (Nat.le_of_ble_eq_true rfl) ⟨rfl, rfl, rfl⟩
abbrev zb_XPicture_keep : ByteArray := prog_6_method_3_code
def zy_XPicture_keep : MethodName := ⟨"OrreryBox$Picture", "keep", "(LOrreryBox$Piece;I)V"⟩
theorem zc_XPicture_keep : Cond.code zy_XPicture_keep zb_XPicture_keep 3 none ∈ gw := gw_t 763 (by decide +kernel) rfl
theorem zq_XPicture_keep : zy_XPicture_keep.cls ≠ "java/lang/invoke/MethodHandle" ∧ zy_XPicture_keep.cls ≠ "java/lang/invoke/VarHandle" ∧ (parseMethodDescriptor zy_XPicture_keep.desc).map (fun d => d.parameters.length) = some 2 := by decide +kernel
theorem zd_XPicture_keep_0 : decode zb_XPicture_keep 0 = .ok (.aload_n 0, 1) := by decide +kernel
theorem zd_XPicture_keep_1 : decode zb_XPicture_keep 1 = .ok (.getfield 62, 3) := by decide +kernel
theorem zd_XPicture_keep_4 : decode zb_XPicture_keep 4 = .ok (.ldc 16, 2) := by decide +kernel
theorem zd_XPicture_keep_6 : decode zb_XPicture_keep 6 = .ok (.if_icmp .ge 39, 3) := by decide +kernel
theorem zd_XPicture_keep_9 : decode zb_XPicture_keep 9 = .ok (.aload_n 1, 1) := by decide +kernel
theorem zd_XPicture_keep_10 : decode zb_XPicture_keep 10 = .ok (.aload_n 0, 1) := by decide +kernel
theorem zd_XPicture_keep_11 : decode zb_XPicture_keep 11 = .ok (.getfield 10, 3) := by decide +kernel
theorem zd_XPicture_keep_14 : decode zb_XPicture_keep 14 = .ok (.bipush 18, 2) := by decide +kernel
theorem zd_XPicture_keep_16 : decode zb_XPicture_keep 16 = .ok (.aload_n 0, 1) := by decide +kernel
theorem zd_XPicture_keep_17 : decode zb_XPicture_keep 17 = .ok (.getfield 62, 3) := by decide +kernel
theorem zd_XPicture_keep_20 : decode zb_XPicture_keep 20 = .ok (.imul, 1) := by decide +kernel
theorem zd_XPicture_keep_21 : decode zb_XPicture_keep 21 = .ok (.invokevirtual 65, 3) := by decide +kernel
theorem zd_XPicture_keep_24 : decode zb_XPicture_keep 24 = .ok (.aload_n 0, 1) := by decide +kernel
theorem zd_XPicture_keep_25 : decode zb_XPicture_keep 25 = .ok (.getfield 17, 3) := by decide +kernel
theorem zd_XPicture_keep_28 : decode zb_XPicture_keep 28 = .ok (.aload_n 0, 1) := by decide +kernel
theorem zd_XPicture_keep_29 : decode zb_XPicture_keep 29 = .ok (.getfield 62, 3) := by decide +kernel
theorem zd_XPicture_keep_32 : decode zb_XPicture_keep 32 = .ok (.iload_n 2, 1) := by decide +kernel
theorem zd_XPicture_keep_33 : decode zb_XPicture_keep 33 = .ok (.i2b, 1) := by decide +kernel
theorem zd_XPicture_keep_34 : decode zb_XPicture_keep 34 = .ok (.bastore, 1) := by decide +kernel
theorem zd_XPicture_keep_35 : decode zb_XPicture_keep 35 = .ok (.aload_n 0, 1) := by decide +kernel
theorem zd_XPicture_keep_36 : decode zb_XPicture_keep 36 = .ok (.dup, 1) := by decide +kernel
theorem zd_XPicture_keep_37 : decode zb_XPicture_keep 37 = .ok (.getfield 62, 3) := by decide +kernel
theorem zd_XPicture_keep_40 : decode zb_XPicture_keep 40 = .ok (.iconst 1, 1) := by decide +kernel
theorem zd_XPicture_keep_41 : decode zb_XPicture_keep 41 = .ok (.iadd, 1) := by decide +kernel
theorem zd_XPicture_keep_42 : decode zb_XPicture_keep 42 = .ok (.putfield 62, 3) := by decide +kernel
theorem zd_XPicture_keep_45 : decode zb_XPicture_keep 45 = .ok (.return_, 1) := by decide +kernel
theorem zw_764 : (Jvm.Cond.methodLink "OrreryBox$Picture" (65 : Nat) ({ cls := "OrreryBox$Piece", name := "keepAt", desc := "([II)V" } : Jvm.MethodName)) ∈ gw := gw_t 764 (by decide +kernel) rfl
theorem zw_765 : (Jvm.Cond.instanceMethod ({ cls := "OrreryBox$Piece", name := "keepAt", desc := "([II)V" } : Jvm.MethodName)) ∈ gw := gw_t 765 (by decide +kernel) rfl
theorem zw_766 : (Jvm.Cond.selects "OrreryBox$Piece" ({ cls := "OrreryBox$Piece", name := "keepAt", desc := "([II)V" } : Jvm.MethodName) ({ cls := "OrreryBox$Piece", name := "keepAt", desc := "([II)V" } : Jvm.MethodName)) ∈ gw := gw_t 766 (by decide +kernel) rfl
theorem zs_XPicture_65 : zwV "OrreryBox$Picture" 65 "OrreryBox$Piece" zy_XPiece_keepAt zb_XPiece_keepAt 3 none := ⟨zw_764, zw_765, zw_766, zw_11, zc_XPiece_keepAt⟩
def F_XPicture_keep (sh : zSh) (mm : zMem) (o : Nat) (x0_ : Nat) (x1_ : Int32) : Option zMem := zoS (sh o) 5 (fun le2 => (if 36864 ≤ (mm.1 o 10) then some mm else zoS (sh o) 5 (fun le5 => Option.bind (mm.2.2 o 8) (fun a6 => zoS (sh o) 5 (fun le8 => zoS (sh x0_) 6 (fun le10 => Option.bind (F_XPiece_keepAt sh mm x0_ a6 (18 * (mm.1 o 10))) (fun p11 => zoS (sh o) 5 (fun le13 => Option.bind (p11.2.2 o 9) (fun a14 => zoS (sh o) 5 (fun le16 => zoL ((x1_ : Int32).toInt8.toInt32) (fun x17 => zoL (p11.1 o 10) (fun i18 => zoS (sh a14) 101 (fun le20 => if (i18 : Int32) < 0 ∨ le20 ≤ (i18 : Int32).toNatClampNeg then none else zoL (mI p11 a14 (i18 : Int32).toNatClampNeg (vp_nar .byte x17)) (fun mm22 => zoS (sh o) 5 (fun le24 => zoL ((mm22.1 o 10) + 1) (fun x25 => zoS (sh o) 5 (fun le27 => zoL (mI mm22 o 10 x25) (fun mm28 => some mm28))))))))))))))))))
set_option maxHeartbeats 4000000 in
set_option maxRecDepth 100000 in
theorem k_XPicture_keep (l : Launch) (D : va_G) (tA : Nat → ClassId) (b : Nat) (sh : zSh) (n : Nat) {mm : zMem} {o : Nat} {x0_ : Nat} {x1_ : Int32} {r : zMem} (h : F_XPicture_keep sh mm o x0_ x1_ = some r) : zM l D tA b zy_XPicture_keep zb_XPicture_keep 3 none 2 82 0 0 [.ref (b + o), .ref (b + x0_), .int x1_] (zW tA b sh mm) n (zE none (zW tA b sh r) n) := by
  unfold F_XPicture_keep at h
  refine zM_of (own := "OrreryBox$Picture") (plainFor_of_name (by decide)) rfl (Nat.le_of_ble_eq_true rfl) (fun p e s m below meth c F hr hin hH => ?_)
  refine zr_aload_n F zd_XPicture_keep_0 rfl ?_
  obtain ⟨le2, hs1, h⟩ := zoS_s h
  refine zr_get F 5 10 zd_XPicture_keep_1 (zW_o hs1 (by decide)) rfl (by decide) zw_443 rfl (by rfl) ?_
  refine zr_ldc F zd_XPicture_keep_4 zw_426 ?_
  refine zr_icmp_ge F 45 zd_XPicture_keep_6 (by decide) (fun hb3 => ?_) (fun hb3 => ?_)
  ·
    rw [if_pos hb3] at h
    obtain rfl := Option.some.inj h
    exact zr_vret F hr zd_XPicture_keep_45 (Nat.le_of_ble_eq_true rfl) (Nat.le_of_ble_eq_true rfl) ⟨rfl, rfl, rfl⟩
  ·
    rw [if_neg hb3] at h
    refine zr_aload_n F zd_XPicture_keep_9 rfl ?_
    refine zr_aload_n F zd_XPicture_keep_10 rfl ?_
    refine zr_pcn 11 rfl ?_
    obtain ⟨le5, hs4, h⟩ := zoS_s h
    obtain ⟨a6, ea6, h⟩ := zoB_s h
    refine zr_get F 5 8 zd_XPicture_keep_11 (zW_o hs4 (by decide)) rfl (by decide) zw_441 rfl (by rfl) ?_
    refine zr_tor ea6 ?_
    refine zr_bipushv (v := 18) F zd_XPicture_keep_14 (by decide) ?_
    refine zr_aload_n F zd_XPicture_keep_16 rfl ?_
    obtain ⟨le8, hs7, h⟩ := zoS_s h
    refine zr_get F 5 10 zd_XPicture_keep_17 (zW_o hs7 (by decide)) rfl (by decide) zw_443 rfl (by rfl) ?_
    refine zr_imul F zd_XPicture_keep_20 ?_
    obtain ⟨le10, hs9, h⟩ := zoS_s h
    obtain ⟨p11, ep11, h⟩ := zoB_s h
    refine zr_callV0 F (k_XPiece_keepAt l D tA b sh _ ep11) zd_XPicture_keep_21 (zW_o hs9 (by decide)) rfl zs_XPicture_65 rfl zq_XPiece_keepAt rfl rfl ⟨(Nat.le_of_ble_eq_true rfl), (Nat.le_of_ble_eq_true rfl)⟩ (Nat.le_of_ble_eq_true rfl) ⟨(Nat.le_of_ble_eq_true rfl), (Nat.le_of_ble_eq_true rfl)⟩ ?_
    refine zr_aload_n F zd_XPicture_keep_24 rfl ?_
    obtain ⟨le13, hs12, h⟩ := zoS_s h
    obtain ⟨a14, ea14, h⟩ := zoB_s h
    refine zr_get F 5 9 zd_XPicture_keep_25 (zW_o hs12 (by decide)) rfl (by decide) zw_442 rfl (by rfl) ?_
    refine zr_tor ea14 ?_
    refine zr_pcn 28 rfl ?_
    refine zr_aload_n F zd_XPicture_keep_28 rfl ?_
    obtain ⟨le16, hs15, h⟩ := zoS_s h
    refine zr_get F 5 10 zd_XPicture_keep_29 (zW_o hs15 (by decide)) rfl (by decide) zw_443 rfl (by rfl) ?_
    refine zr_iload_n F zd_XPicture_keep_32 rfl ?_
    refine zr_i2b F zd_XPicture_keep_33 ?_
    obtain ⟨x17, ex17, h⟩ := zoL_s h
    rw [← ex17]
    obtain ⟨i18, ei18, h⟩ := zoL_s h
    rw [← ei18]
    obtain ⟨le20, hs19, h⟩ := zoS_s h
    obtain ⟨hi21, h⟩ := zoI_s h
    refine zr_bast F zd_XPicture_keep_34 (zW_a1 hs19) hi21 ?_
    obtain ⟨mm22, emm22, h⟩ := zoL_s h
    refine zr_norm (zW tA b sh mm22) _ (by rw [emm22]; exact zW_s1 hs19) rfl ?_
    refine zr_aload_n F zd_XPicture_keep_35 rfl ?_
    refine zr_dup F zd_XPicture_keep_36 rfl ?_
    obtain ⟨le24, hs23, h⟩ := zoS_s h
    refine zr_get F 5 10 zd_XPicture_keep_37 (zW_o hs23 (by decide)) rfl (by decide) zw_443 rfl (by rfl) ?_
    refine zr_pcn 40 rfl ?_
    refine zr_iconstv (v := 1) F zd_XPicture_keep_40 (by decide) ?_
    refine zr_iadd F zd_XPicture_keep_41 ?_
    obtain ⟨x25, ex25, h⟩ := zoL_s h
    rw [← ex25]
    obtain ⟨le27, hs26, h⟩ := zoS_s h
    refine zr_put F 5 10 zd_XPicture_keep_42 (zW_o hs26 (by decide)) rfl (by decide) zw_443 rfl rfl rfl rfl (by exact (Nat.le_of_ble_eq_true rfl)) ?_
    obtain ⟨mm28, emm28, h⟩ := zoL_s h
    refine zr_norm (zW tA b sh mm28) _ (by rw [emm28]; exact zW_pI (v := x25) hs26 (by decide) (zf_I_5_10 b _ _ _)) rfl ?_
    obtain rfl := Option.some.inj h
    exact zr_vret F hr zd_XPicture_keep_45 (Nat.le_of_ble_eq_true rfl) (Nat.le_of_ble_eq_true rfl) ⟨rfl, rfl, rfl⟩
abbrev zb_XPicture_drawPixel : ByteArray := prog_6_method_10_code
def zy_XPicture_drawPixel : MethodName := ⟨"OrreryBox$Picture", "drawPixel", "(I[II)V"⟩
theorem zc_XPicture_drawPixel : Cond.code zy_XPicture_drawPixel zb_XPicture_drawPixel 11 none ∈ gw := gw_t 859 (by decide +kernel) rfl
theorem zq_XPicture_drawPixel : zy_XPicture_drawPixel.cls ≠ "java/lang/invoke/MethodHandle" ∧ zy_XPicture_drawPixel.cls ≠ "java/lang/invoke/VarHandle" ∧ (parseMethodDescriptor zy_XPicture_drawPixel.desc).map (fun d => d.parameters.length) = some 3 := by decide +kernel
theorem zd_XPicture_drawPixel_0 : decode zb_XPicture_drawPixel 0 = .ok (.aload_n 0, 1) := by decide +kernel
theorem zd_XPicture_drawPixel_1 : decode zb_XPicture_drawPixel 1 = .ok (.getfield 24, 3) := by decide +kernel
theorem zd_XPicture_drawPixel_4 : decode zb_XPicture_drawPixel 4 = .ok (.iconst 5, 1) := by decide +kernel
theorem zd_XPicture_drawPixel_5 : decode zb_XPicture_drawPixel 5 = .ok (.invokevirtual 138, 3) := by decide +kernel
theorem zd_XPicture_drawPixel_8 : decode zb_XPicture_drawPixel 8 = .ok (.l2i, 1) := by decide +kernel
theorem zd_XPicture_drawPixel_9 : decode zb_XPicture_drawPixel 9 = .ok (.istore 4, 2) := by decide +kernel
theorem zd_XPicture_drawPixel_11 : decode zb_XPicture_drawPixel 11 = .ok (.aload_n 2, 1) := by decide +kernel
theorem zd_XPicture_drawPixel_12 : decode zb_XPicture_drawPixel 12 = .ok (.iconst 3, 1) := by decide +kernel
theorem zd_XPicture_drawPixel_13 : decode zb_XPicture_drawPixel 13 = .ok (.iaload, 1) := by decide +kernel
theorem zd_XPicture_drawPixel_14 : decode zb_XPicture_drawPixel 14 = .ok (.istore 5, 2) := by decide +kernel
theorem zd_XPicture_drawPixel_16 : decode zb_XPicture_drawPixel 16 = .ok (.aload_n 0, 1) := by decide +kernel
theorem zd_XPicture_drawPixel_17 : decode zb_XPicture_drawPixel 17 = .ok (.getfield 41, 3) := by decide +kernel
theorem zd_XPicture_drawPixel_20 : decode zb_XPicture_drawPixel 20 = .ok (.iload_n 1, 1) := by decide +kernel
theorem zd_XPicture_drawPixel_21 : decode zb_XPicture_drawPixel 21 = .ok (.iaload, 1) := by decide +kernel
theorem zd_XPicture_drawPixel_22 : decode zb_XPicture_drawPixel 22 = .ok (.istore 6, 2) := by decide +kernel
theorem zd_XPicture_drawPixel_24 : decode zb_XPicture_drawPixel 24 = .ok (.iconst 0, 1) := by decide +kernel
theorem zd_XPicture_drawPixel_25 : decode zb_XPicture_drawPixel 25 = .ok (.istore 7, 2) := by decide +kernel
theorem zd_XPicture_drawPixel_27 : decode zb_XPicture_drawPixel 27 = .ok (.iconst 0, 1) := by decide +kernel
theorem zd_XPicture_drawPixel_28 : decode zb_XPicture_drawPixel 28 = .ok (.istore 8, 2) := by decide +kernel
theorem zd_XPicture_drawPixel_30 : decode zb_XPicture_drawPixel 30 = .ok (.iload 8, 2) := by decide +kernel
theorem zd_XPicture_drawPixel_32 : decode zb_XPicture_drawPixel 32 = .ok (.iconst 3, 1) := by decide +kernel
theorem zd_XPicture_drawPixel_33 : decode zb_XPicture_drawPixel 33 = .ok (.if_icmp .ge 90, 3) := by decide +kernel
theorem zd_XPicture_drawPixel_36 : decode zb_XPicture_drawPixel 36 = .ok (.bipush 16, 2) := by decide +kernel
theorem zd_XPicture_drawPixel_38 : decode zb_XPicture_drawPixel 38 = .ok (.bipush 8, 2) := by decide +kernel
theorem zd_XPicture_drawPixel_40 : decode zb_XPicture_drawPixel 40 = .ok (.iload 8, 2) := by decide +kernel
theorem zd_XPicture_drawPixel_42 : decode zb_XPicture_drawPixel 42 = .ok (.imul, 1) := by decide +kernel
theorem zd_XPicture_drawPixel_43 : decode zb_XPicture_drawPixel 43 = .ok (.isub, 1) := by decide +kernel
theorem zd_XPicture_drawPixel_44 : decode zb_XPicture_drawPixel 44 = .ok (.istore 9, 2) := by decide +kernel
theorem zd_XPicture_drawPixel_46 : decode zb_XPicture_drawPixel 46 = .ok (.iload_n 3, 1) := by decide +kernel
theorem zd_XPicture_drawPixel_47 : decode zb_XPicture_drawPixel 47 = .ok (.iload 9, 2) := by decide +kernel
theorem zd_XPicture_drawPixel_49 : decode zb_XPicture_drawPixel 49 = .ok (.ishr, 1) := by decide +kernel
theorem zd_XPicture_drawPixel_50 : decode zb_XPicture_drawPixel 50 = .ok (.sipush 255, 3) := by decide +kernel
theorem zd_XPicture_drawPixel_53 : decode zb_XPicture_drawPixel 53 = .ok (.iand, 1) := by decide +kernel
theorem zd_XPicture_drawPixel_54 : decode zb_XPicture_drawPixel 54 = .ok (.aload_n 2, 1) := by decide +kernel
theorem zd_XPicture_drawPixel_55 : decode zb_XPicture_drawPixel 55 = .ok (.iload 8, 2) := by decide +kernel
theorem zd_XPicture_drawPixel_57 : decode zb_XPicture_drawPixel 57 = .ok (.iaload, 1) := by decide +kernel
theorem zd_XPicture_drawPixel_58 : decode zb_XPicture_drawPixel 58 = .ok (.imul, 1) := by decide +kernel
theorem zd_XPicture_drawPixel_59 : decode zb_XPicture_drawPixel 59 = .ok (.sipush 255, 3) := by decide +kernel
theorem zd_XPicture_drawPixel_62 : decode zb_XPicture_drawPixel 62 = .ok (.idiv, 1) := by decide +kernel
theorem zd_XPicture_drawPixel_63 : decode zb_XPicture_drawPixel 63 = .ok (.iload 4, 2) := by decide +kernel
theorem zd_XPicture_drawPixel_65 : decode zb_XPicture_drawPixel 65 = .ok (.imul, 1) := by decide +kernel
theorem zd_XPicture_drawPixel_66 : decode zb_XPicture_drawPixel 66 = .ok (.bipush 16, 2) := by decide +kernel
theorem zd_XPicture_drawPixel_68 : decode zb_XPicture_drawPixel 68 = .ok (.ishr, 1) := by decide +kernel
theorem zd_XPicture_drawPixel_69 : decode zb_XPicture_drawPixel 69 = .ok (.istore 10, 2) := by decide +kernel
theorem zd_XPicture_drawPixel_71 : decode zb_XPicture_drawPixel 71 = .ok (.iload 5, 2) := by decide +kernel
theorem zd_XPicture_drawPixel_73 : decode zb_XPicture_drawPixel 73 = .ok (.sipush 255, 3) := by decide +kernel
theorem zd_XPicture_drawPixel_76 : decode zb_XPicture_drawPixel 76 = .ok (.if_icmp .ge 31, 3) := by decide +kernel
theorem zd_XPicture_drawPixel_79 : decode zb_XPicture_drawPixel 79 = .ok (.iload 10, 2) := by decide +kernel
theorem zd_XPicture_drawPixel_81 : decode zb_XPicture_drawPixel 81 = .ok (.iload 5, 2) := by decide +kernel
theorem zd_XPicture_drawPixel_83 : decode zb_XPicture_drawPixel 83 = .ok (.imul, 1) := by decide +kernel
theorem zd_XPicture_drawPixel_84 : decode zb_XPicture_drawPixel 84 = .ok (.iload 6, 2) := by decide +kernel
theorem zd_XPicture_drawPixel_86 : decode zb_XPicture_drawPixel 86 = .ok (.iload 9, 2) := by decide +kernel
theorem zd_XPicture_drawPixel_88 : decode zb_XPicture_drawPixel 88 = .ok (.ishr, 1) := by decide +kernel
theorem zd_XPicture_drawPixel_89 : decode zb_XPicture_drawPixel 89 = .ok (.sipush 255, 3) := by decide +kernel
theorem zd_XPicture_drawPixel_92 : decode zb_XPicture_drawPixel 92 = .ok (.iand, 1) := by decide +kernel
theorem zd_XPicture_drawPixel_93 : decode zb_XPicture_drawPixel 93 = .ok (.sipush 255, 3) := by decide +kernel
theorem zd_XPicture_drawPixel_96 : decode zb_XPicture_drawPixel 96 = .ok (.iload 5, 2) := by decide +kernel
theorem zd_XPicture_drawPixel_98 : decode zb_XPicture_drawPixel 98 = .ok (.isub, 1) := by decide +kernel
theorem zd_XPicture_drawPixel_99 : decode zb_XPicture_drawPixel 99 = .ok (.imul, 1) := by decide +kernel
theorem zd_XPicture_drawPixel_100 : decode zb_XPicture_drawPixel 100 = .ok (.iadd, 1) := by decide +kernel
theorem zd_XPicture_drawPixel_101 : decode zb_XPicture_drawPixel 101 = .ok (.sipush 255, 3) := by decide +kernel
theorem zd_XPicture_drawPixel_104 : decode zb_XPicture_drawPixel 104 = .ok (.idiv, 1) := by decide +kernel
theorem zd_XPicture_drawPixel_105 : decode zb_XPicture_drawPixel 105 = .ok (.istore 10, 2) := by decide +kernel
theorem zd_XPicture_drawPixel_107 : decode zb_XPicture_drawPixel 107 = .ok (.iload 7, 2) := by decide +kernel
theorem zd_XPicture_drawPixel_109 : decode zb_XPicture_drawPixel 109 = .ok (.iload 10, 2) := by decide +kernel
theorem zd_XPicture_drawPixel_111 : decode zb_XPicture_drawPixel 111 = .ok (.iload 9, 2) := by decide +kernel
theorem zd_XPicture_drawPixel_113 : decode zb_XPicture_drawPixel 113 = .ok (.ishl, 1) := by decide +kernel
theorem zd_XPicture_drawPixel_114 : decode zb_XPicture_drawPixel 114 = .ok (.ior, 1) := by decide +kernel
theorem zd_XPicture_drawPixel_115 : decode zb_XPicture_drawPixel 115 = .ok (.istore 7, 2) := by decide +kernel
theorem zd_XPicture_drawPixel_117 : decode zb_XPicture_drawPixel 117 = .ok (.iinc 8 1, 3) := by decide +kernel
theorem zd_XPicture_drawPixel_120 : decode zb_XPicture_drawPixel 120 = .ok (.goto (-90), 3) := by decide +kernel
theorem zd_XPicture_drawPixel_123 : decode zb_XPicture_drawPixel 123 = .ok (.aload_n 0, 1) := by decide +kernel
theorem zd_XPicture_drawPixel_124 : decode zb_XPicture_drawPixel 124 = .ok (.getfield 41, 3) := by decide +kernel
theorem zd_XPicture_drawPixel_127 : decode zb_XPicture_drawPixel 127 = .ok (.iload_n 1, 1) := by decide +kernel
theorem zd_XPicture_drawPixel_128 : decode zb_XPicture_drawPixel 128 = .ok (.iload 7, 2) := by decide +kernel
theorem zd_XPicture_drawPixel_130 : decode zb_XPicture_drawPixel 130 = .ok (.iastore, 1) := by decide +kernel
theorem zd_XPicture_drawPixel_131 : decode zb_XPicture_drawPixel 131 = .ok (.iload 5, 2) := by decide +kernel
theorem zd_XPicture_drawPixel_133 : decode zb_XPicture_drawPixel 133 = .ok (.sipush 255, 3) := by decide +kernel
theorem zd_XPicture_drawPixel_136 : decode zb_XPicture_drawPixel 136 = .ok (.if_icmp .ne 17, 3) := by decide +kernel
theorem zd_XPicture_drawPixel_139 : decode zb_XPicture_drawPixel 139 = .ok (.aload_n 0, 1) := by decide +kernel
theorem zd_XPicture_drawPixel_140 : decode zb_XPicture_drawPixel 140 = .ok (.getfield 44, 3) := by decide +kernel
theorem zd_XPicture_drawPixel_143 : decode zb_XPicture_drawPixel 143 = .ok (.iload_n 1, 1) := by decide +kernel
theorem zd_XPicture_drawPixel_144 : decode zb_XPicture_drawPixel 144 = .ok (.aload_n 0, 1) := by decide +kernel
theorem zd_XPicture_drawPixel_145 : decode zb_XPicture_drawPixel 145 = .ok (.getfield 24, 3) := by decide +kernel
theorem zd_XPicture_drawPixel_148 : decode zb_XPicture_drawPixel 148 = .ok (.invokevirtual 134, 3) := by decide +kernel
theorem zd_XPicture_drawPixel_151 : decode zb_XPicture_drawPixel 151 = .ok (.l2i, 1) := by decide +kernel
theorem zd_XPicture_drawPixel_152 : decode zb_XPicture_drawPixel 152 = .ok (.iastore, 1) := by decide +kernel
theorem zd_XPicture_drawPixel_153 : decode zb_XPicture_drawPixel 153 = .ok (.return_, 1) := by decide +kernel
theorem zw_835 : (Jvm.Cond.methodLink "OrreryBox$Picture" (138 : Nat) ({ cls := "OrreryBox$Piece", name := "mixed", desc := "(I)J" } : Jvm.MethodName)) ∈ gw := gw_t 835 (by decide +kernel) rfl
theorem zw_836 : (Jvm.Cond.instanceMethod ({ cls := "OrreryBox$Piece", name := "mixed", desc := "(I)J" } : Jvm.MethodName)) ∈ gw := gw_t 836 (by decide +kernel) rfl
theorem zw_837 : (Jvm.Cond.selects "OrreryBox$Piece" ({ cls := "OrreryBox$Piece", name := "mixed", desc := "(I)J" } : Jvm.MethodName) ({ cls := "OrreryBox$Piece", name := "mixed", desc := "(I)J" } : Jvm.MethodName)) ∈ gw := gw_t 837 (by decide +kernel) rfl
theorem zs_XPicture_138 : zwV "OrreryBox$Picture" 138 "OrreryBox$Piece" zy_XPiece_mixed zb_XPiece_mixed 2 (some .long) := ⟨zw_835, zw_836, zw_837, zw_11, zc_XPiece_mixed⟩
def L_XPicture_drawPixel_30 (sh : zSh) (fuel : Nat) (v0 : Nat) (v1 : Int32) (v2 : Nat) (v3 : Int32) (v4 : Int32) (v5 : Int32) (v6 : Int32) (v7 : Int32) (v8 : Int32) (mm : zMem) : Option (Nat × Int32 × Nat × Int32 × Int32 × Int32 × Int32 × Int32 × Int32 × zMem) := match fuel with
  | 0 => none
  | fu + 1 => (if 3 ≤ v8 then some (v0, v1, v2, v3, v4, v5, v6, v7, v8, mm) else zoL (16 - (8 * v8)) (fun x20 => zoS (sh v2) 100 (fun le22 => if (v8 : Int32) < 0 ∨ le22 ≤ (v8 : Int32).toNatClampNeg then none else zoL ((((((v3 >>> (x20 &&& 31)) &&& 255) * (mm.1 v2 (v8 : Int32).toNatClampNeg)) / 255) * v4) >>> (16 &&& 31)) (fun x24 => (if 255 ≤ v5 then zoL (v7 ||| (x24 <<< (x20 &&& 31))) (fun x26 => L_XPicture_drawPixel_30 sh fu v0 v1 v2 v3 v4 v5 v6 x26 (v8 + 1) mm) else zoL (((x24 * v5) + (((v6 >>> (x20 &&& 31)) &&& 255) * (255 - v5))) / 255) (fun x27 => zoL (v7 ||| (x27 <<< (x20 &&& 31))) (fun x28 => L_XPicture_drawPixel_30 sh fu v0 v1 v2 v3 v4 v5 v6 x28 (v8 + 1) mm)))))))
set_option maxHeartbeats 4000000 in
set_option maxRecDepth 100000 in
theorem lp_XPicture_drawPixel_30 {p : Program} {l : Launch} {e : Env} {s : State} {m : MethodId} {args : Array Value} {below : List Frame} {meth : Method} {c : Code} {D : va_G} {tA : Nat → ClassId} {b n : Nat} {post : Option Value → zV → Nat → Prop} {sh : zSh} (F : zF p s m args meth c zb_XPicture_drawPixel 11 "OrreryBox$Picture" D tA b) : ∀ (fuel : Nat) (v0 : Nat) (v1 : Int32) (v2 : Nat) (v3 : Int32) (v4 : Int32) (v5 : Int32) (v6 : Int32) (v7 : Int32) (v8 : Int32) (mm : zMem) (r : Nat × Int32 × Nat × Int32 × Int32 × Int32 × Int32 × Int32 × Int32 × zMem), L_XPicture_drawPixel_30 sh fuel v0 v1 v2 v3 v4 v5 v6 v7 v8 mm = some r → (Z p l e { frames := 3, cells := 0, slots := 0, locals := 69 } s m args below meth c D b 11 (MQ below (zQ D b post) args s 0 0 (fun q => b ≤ q)) (zW tA b sh r.2.2.2.2.2.2.2.2.2) n 0 0 123 [(0, .ref (b + (r.1))), (1, .int (r.2.1)), (2, .ref (b + (r.2.2.1))), (3, .int (r.2.2.2.1)), (4, .int (r.2.2.2.2.1)), (5, .int (r.2.2.2.2.2.1)), (6, .int (r.2.2.2.2.2.2.1)), (7, .int (r.2.2.2.2.2.2.2.1)), (8, .int (r.2.2.2.2.2.2.2.2.1))] []) → Z p l e { frames := 3, cells := 0, slots := 0, locals := 69 } s m args below meth c D b 11 (MQ below (zQ D b post) args s 0 0 (fun q => b ≤ q)) (zW tA b sh mm) n 0 0 30 [(0, .ref (b + v0)), (1, .int v1), (2, .ref (b + v2)), (3, .int v3), (4, .int v4), (5, .int v5), (6, .int v6), (7, .int v7), (8, .int v8)] [] := by
  intro fuel
  induction fuel with
  | zero =>
    intro v0 v1 v2 v3 v4 v5 v6 v7 v8 mm r h
    cases h
  | succ fu ih =>
    intro v0 v1 v2 v3 v4 v5 v6 v7 v8 mm r h hx0
    rw [L_XPicture_drawPixel_30] at h
    refine zr_iload F zd_XPicture_drawPixel_30 rfl ?_
    refine zr_iconstv (v := 3) F zd_XPicture_drawPixel_32 (by decide) ?_
    refine zr_icmp_ge F 123 zd_XPicture_drawPixel_33 (by decide) (fun hb19 => ?_) (fun hb19 => ?_)
    ·
      rw [if_pos hb19] at h
      obtain rfl := Option.some.inj h
      refine zr_loc (L' := [(0, .ref (b + v0)), (1, .int v1), (2, .ref (b + v2)), (3, .int v3), (4, .int v4), (5, .int v5), (6, .int v6), (7, .int v7), (8, .int v8)]) ⟨rfl, rfl, rfl, rfl, rfl, rfl, rfl, rfl, rfl, trivial⟩ ?_
      exact hx0 
    ·
      rw [if_neg hb19] at h
      refine zr_bipushv (v := 16) F zd_XPicture_drawPixel_36 (by decide) ?_
      refine zr_pcn 38 rfl ?_
      refine zr_bipushv (v := 8) F zd_XPicture_drawPixel_38 (by decide) ?_
      refine zr_iload F zd_XPicture_drawPixel_40 rfl ?_
      refine zr_imul F zd_XPicture_drawPixel_42 ?_
      refine zr_isub F zd_XPicture_drawPixel_43 ?_
      obtain ⟨x20, ex20, h⟩ := zoL_s h
      rw [← ex20]
      refine zr_istore F zd_XPicture_drawPixel_44 (by decide) ?_
      refine zr_iload_n F zd_XPicture_drawPixel_46 rfl ?_
      refine zr_iload F zd_XPicture_drawPixel_47 rfl ?_
      refine zr_ishr F zd_XPicture_drawPixel_49 ?_
      refine zr_pcn 50 rfl ?_
      refine zr_sipushv (v := 255) F zd_XPicture_drawPixel_50 (by decide) ?_
      refine zr_iand F zd_XPicture_drawPixel_53 ?_
      refine zr_aload_n F zd_XPicture_drawPixel_54 rfl ?_
      refine zr_iload F zd_XPicture_drawPixel_55 rfl ?_
      obtain ⟨le22, hs21, h⟩ := zoS_s h
      obtain ⟨hi23, h⟩ := zoI_s h
      refine zr_iald F zd_XPicture_drawPixel_57 (zW_a0 hs21) hi23 ?_
      refine zr_imul F zd_XPicture_drawPixel_58 ?_
      refine zr_sipushv (v := 255) F zd_XPicture_drawPixel_59 (by decide) ?_
      refine zr_idiv F zd_XPicture_drawPixel_62 (by decide) ?_
      refine zr_pcn 63 rfl ?_
      refine zr_iload F zd_XPicture_drawPixel_63 rfl ?_
      refine zr_imul F zd_XPicture_drawPixel_65 ?_
      refine zr_bipushv (v := 16) F zd_XPicture_drawPixel_66 (by decide) ?_
      refine zr_ishr F zd_XPicture_drawPixel_68 ?_
      obtain ⟨x24, ex24, h⟩ := zoL_s h
      rw [← ex24]
      refine zr_istore F zd_XPicture_drawPixel_69 (by decide) ?_
      refine zr_iload F zd_XPicture_drawPixel_71 rfl ?_
      refine zr_sipushv (v := 255) F zd_XPicture_drawPixel_73 (by decide) ?_
      refine zr_icmp_ge F 107 zd_XPicture_drawPixel_76 (by decide) (fun hb25 => ?_) (fun hb25 => ?_)
      ·
        rw [if_pos hb25] at h
        refine zr_pcn 107 rfl ?_
        refine zr_iload F zd_XPicture_drawPixel_107 rfl ?_
        refine zr_iload F zd_XPicture_drawPixel_109 rfl ?_
        refine zr_iload F zd_XPicture_drawPixel_111 rfl ?_
        refine zr_ishl F zd_XPicture_drawPixel_113 ?_
        refine zr_ior F zd_XPicture_drawPixel_114 ?_
        obtain ⟨x26, ex26, h⟩ := zoL_s h
        rw [← ex26]
        refine zr_istore F zd_XPicture_drawPixel_115 (by decide) ?_
        refine zr_iinc (v := (v8 + 1)) F zd_XPicture_drawPixel_117 rfl rfl (by decide) ?_
        refine zr_goto F 30 zd_XPicture_drawPixel_120 (by decide) ?_
        refine zr_loc (L' := [(0, .ref (b + v0)), (1, .int v1), (2, .ref (b + v2)), (3, .int v3), (4, .int v4), (5, .int v5), (6, .int v6), (7, .int x26), (8, .int (v8 + 1))]) ⟨rfl, rfl, rfl, rfl, rfl, rfl, rfl, rfl, rfl, trivial⟩ ?_
        exact ih _ _ _ _ _ _ _ _ _ _ _ h hx0
      ·
        rw [if_neg hb25] at h
        refine zr_pcn 79 rfl ?_
        refine zr_iload F zd_XPicture_drawPixel_79 rfl ?_
        refine zr_iload F zd_XPicture_drawPixel_81 rfl ?_
        refine zr_imul F zd_XPicture_drawPixel_83 ?_
        refine zr_iload F zd_XPicture_drawPixel_84 rfl ?_
        refine zr_iload F zd_XPicture_drawPixel_86 rfl ?_
        refine zr_ishr F zd_XPicture_drawPixel_88 ?_
        refine zr_sipushv (v := 255) F zd_XPicture_drawPixel_89 (by decide) ?_
        refine zr_iand F zd_XPicture_drawPixel_92 ?_
        refine zr_pcn 93 rfl ?_
        refine zr_sipushv (v := 255) F zd_XPicture_drawPixel_93 (by decide) ?_
        refine zr_iload F zd_XPicture_drawPixel_96 rfl ?_
        refine zr_isub F zd_XPicture_drawPixel_98 ?_
        refine zr_imul F zd_XPicture_drawPixel_99 ?_
        refine zr_iadd F zd_XPicture_drawPixel_100 ?_
        refine zr_sipushv (v := 255) F zd_XPicture_drawPixel_101 (by decide) ?_
        refine zr_idiv F zd_XPicture_drawPixel_104 (by decide) ?_
        obtain ⟨x27, ex27, h⟩ := zoL_s h
        rw [← ex27]
        refine zr_istore F zd_XPicture_drawPixel_105 (by decide) ?_
        refine zr_pcn 107 rfl ?_
        refine zr_iload F zd_XPicture_drawPixel_107 rfl ?_
        refine zr_iload F zd_XPicture_drawPixel_109 rfl ?_
        refine zr_iload F zd_XPicture_drawPixel_111 rfl ?_
        refine zr_ishl F zd_XPicture_drawPixel_113 ?_
        refine zr_ior F zd_XPicture_drawPixel_114 ?_
        obtain ⟨x28, ex28, h⟩ := zoL_s h
        rw [← ex28]
        refine zr_istore F zd_XPicture_drawPixel_115 (by decide) ?_
        refine zr_iinc (v := (v8 + 1)) F zd_XPicture_drawPixel_117 rfl rfl (by decide) ?_
        refine zr_goto F 30 zd_XPicture_drawPixel_120 (by decide) ?_
        refine zr_loc (L' := [(0, .ref (b + v0)), (1, .int v1), (2, .ref (b + v2)), (3, .int v3), (4, .int v4), (5, .int v5), (6, .int v6), (7, .int x28), (8, .int (v8 + 1))]) ⟨rfl, rfl, rfl, rfl, rfl, rfl, rfl, rfl, rfl, trivial⟩ ?_
        exact ih _ _ _ _ _ _ _ _ _ _ _ h hx0
theorem zw_829 : (Jvm.Cond.methodLink "OrreryBox$Picture" (134 : Nat) ({ cls := "OrreryBox$Piece", name := "near", desc := "()J" } : Jvm.MethodName)) ∈ gw := gw_t 829 (by decide +kernel) rfl
theorem zw_830 : (Jvm.Cond.instanceMethod ({ cls := "OrreryBox$Piece", name := "near", desc := "()J" } : Jvm.MethodName)) ∈ gw := gw_t 830 (by decide +kernel) rfl
theorem zw_831 : (Jvm.Cond.selects "OrreryBox$Piece" ({ cls := "OrreryBox$Piece", name := "near", desc := "()J" } : Jvm.MethodName) ({ cls := "OrreryBox$Piece", name := "near", desc := "()J" } : Jvm.MethodName)) ∈ gw := gw_t 831 (by decide +kernel) rfl
theorem zs_XPicture_134 : zwV "OrreryBox$Picture" 134 "OrreryBox$Piece" zy_XPiece_near zb_XPiece_near 1 (some .long) := ⟨zw_829, zw_830, zw_831, zw_11, zc_XPiece_near⟩
def F_XPicture_drawPixel (sh : zSh) (mm : zMem) (o : Nat) (x0_ : Int32) (x1_ : Nat) (x2_ : Int32) : Option zMem := zoS (sh o) 5 (fun le2 => Option.bind (mm.2.2 o 11) (fun a3 => zoS (sh a3) 6 (fun le5 => Option.bind (F_XPiece_mixed sh mm a3 5) (fun p6 => zoL ((p6.1 : Int64).toInt32) (fun x7 => zoS (sh x1_) 100 (fun le9 => if (3 : Int32) < 0 ∨ le9 ≤ (3 : Int32).toNatClampNeg then none else zoL ((p6.2).1 x1_ (3 : Int32).toNatClampNeg) (fun x11 => zoS (sh o) 5 (fun le13 => Option.bind ((p6.2).2.2 o 1) (fun a14 => zoS (sh a14) 100 (fun le16 => if (x0_ : Int32) < 0 ∨ le16 ≤ (x0_ : Int32).toNatClampNeg then none else zoL ((p6.2).1 a14 (x0_ : Int32).toNatClampNeg) (fun x18 => Option.bind (L_XPicture_drawPixel_30 sh zfuel o x0_ x1_ x2_ x7 x11 x18 0 0 (p6.2)) (fun q29 => zoS (sh (q29.1)) 5 (fun le31 => Option.bind ((q29.2.2.2.2.2.2.2.2.2).2.2 (q29.1) 1) (fun a32 => zoS (sh a32) 100 (fun le34 => if (q29.2.1 : Int32) < 0 ∨ le34 ≤ (q29.2.1 : Int32).toNatClampNeg then none else zoL (mI (q29.2.2.2.2.2.2.2.2.2) a32 (q29.2.1 : Int32).toNatClampNeg (q29.2.2.2.2.2.2.2.1)) (fun mm36 => (if q29.2.2.2.2.2.1 = 255 then zoS (sh (q29.1)) 5 (fun le39 => Option.bind (mm36.2.2 (q29.1) 2) (fun a40 => zoS (sh (q29.1)) 5 (fun le42 => Option.bind (mm36.2.2 (q29.1) 11) (fun a43 => zoS (sh a43) 6 (fun le45 => Option.bind (F_XPiece_near sh mm36 a43) (fun p46 => zoL ((p46.1 : Int64).toInt32) (fun x47 => zoS (sh a40) 100 (fun le49 => if (q29.2.1 : Int32) < 0 ∨ le49 ≤ (q29.2.1 : Int32).toNatClampNeg then none else zoL (mI (p46.2) a40 (q29.2.1 : Int32).toNatClampNeg x47) (fun mm51 => some mm51))))))))) else some mm36)))))))))))))))))
set_option maxHeartbeats 4000000 in
set_option maxRecDepth 100000 in
theorem k_XPicture_drawPixel (l : Launch) (D : va_G) (tA : Nat → ClassId) (b : Nat) (sh : zSh) (n : Nat) {mm : zMem} {o : Nat} {x0_ : Int32} {x1_ : Nat} {x2_ : Int32} {r : zMem} (h : F_XPicture_drawPixel sh mm o x0_ x1_ x2_ = some r) : zM l D tA b zy_XPicture_drawPixel zb_XPicture_drawPixel 11 none 3 69 0 0 [.ref (b + o), .int x0_, .ref (b + x1_), .int x2_] (zW tA b sh mm) n (zE none (zW tA b sh r) n) := by
  unfold F_XPicture_drawPixel at h
  refine zM_of (own := "OrreryBox$Picture") (plainFor_of_name (by decide)) rfl (Nat.le_of_ble_eq_true rfl) (fun p e s m below meth c F hr hin hH => ?_)
  refine zr_aload_n F zd_XPicture_drawPixel_0 rfl ?_
  obtain ⟨le2, hs1, h⟩ := zoS_s h
  obtain ⟨a3, ea3, h⟩ := zoB_s h
  refine zr_get F 5 11 zd_XPicture_drawPixel_1 (zW_o hs1 (by decide)) rfl (by decide) zw_444 rfl (by rfl) ?_
  refine zr_tor ea3 ?_
  refine zr_iconstv (v := 5) F zd_XPicture_drawPixel_4 (by decide) ?_
  obtain ⟨le5, hs4, h⟩ := zoS_s h
  obtain ⟨p6, ep6, h⟩ := zoB_s h
  refine zr_callV1 F (k_XPiece_mixed l D tA b sh _ ep6) zd_XPicture_drawPixel_5 (zW_o hs4 (by decide)) rfl zs_XPicture_138 rfl zq_XPiece_mixed rfl rfl ⟨(Nat.le_of_ble_eq_true rfl), (Nat.le_of_ble_eq_true rfl)⟩ (Nat.le_of_ble_eq_true rfl) ⟨(Nat.le_of_ble_eq_true rfl), (Nat.le_of_ble_eq_true rfl)⟩ ?_
  refine zr_l2i F zd_XPicture_drawPixel_8 ?_
  obtain ⟨x7, ex7, h⟩ := zoL_s h
  rw [← ex7]
  refine zr_istore F zd_XPicture_drawPixel_9 (by decide) ?_
  refine zr_aload_n F zd_XPicture_drawPixel_11 rfl ?_
  refine zr_pcn 12 rfl ?_
  refine zr_iconstv (v := 3) F zd_XPicture_drawPixel_12 (by decide) ?_
  obtain ⟨le9, hs8, h⟩ := zoS_s h
  obtain ⟨hi10, h⟩ := zoI_s h
  refine zr_iald F zd_XPicture_drawPixel_13 (zW_a0 hs8) hi10 ?_
  obtain ⟨x11, ex11, h⟩ := zoL_s h
  rw [← ex11]
  refine zr_istore F zd_XPicture_drawPixel_14 (by decide) ?_
  refine zr_aload_n F zd_XPicture_drawPixel_16 rfl ?_
  obtain ⟨le13, hs12, h⟩ := zoS_s h
  obtain ⟨a14, ea14, h⟩ := zoB_s h
  refine zr_get F 5 1 zd_XPicture_drawPixel_17 (zW_o hs12 (by decide)) rfl (by decide) zw_431 rfl (by rfl) ?_
  refine zr_tor ea14 ?_
  refine zr_iload_n F zd_XPicture_drawPixel_20 rfl ?_
  obtain ⟨le16, hs15, h⟩ := zoS_s h
  obtain ⟨hi17, h⟩ := zoI_s h
  refine zr_iald F zd_XPicture_drawPixel_21 (zW_a0 hs15) hi17 ?_
  obtain ⟨x18, ex18, h⟩ := zoL_s h
  rw [← ex18]
  refine zr_istore F zd_XPicture_drawPixel_22 (by decide) ?_
  refine zr_pcn 24 rfl ?_
  refine zr_iconstv (v := 0) F zd_XPicture_drawPixel_24 (by decide) ?_
  refine zr_istore F zd_XPicture_drawPixel_25 (by decide) ?_
  refine zr_iconstv (v := 0) F zd_XPicture_drawPixel_27 (by decide) ?_
  refine zr_istore F zd_XPicture_drawPixel_28 (by decide) ?_
  obtain ⟨q29, eq29, h⟩ := zoB_s h
  refine zr_loc (L' := [(0, .ref (b + o)), (1, .int x0_), (2, .ref (b + x1_)), (3, .int x2_), (4, .int x7), (5, .int x11), (6, .int x18), (7, .int 0), (8, .int 0)]) ⟨rfl, rfl, rfl, rfl, rfl, rfl, rfl, rfl, rfl, trivial⟩ ?_
  refine lp_XPicture_drawPixel_30 F _ _ _ _ _ _ _ _ _ _ _ _ eq29 ?_
  ·
    refine zr_pcn 123 rfl ?_
    refine zr_aload_n F zd_XPicture_drawPixel_123 rfl ?_
    obtain ⟨le31, hs30, h⟩ := zoS_s h
    obtain ⟨a32, ea32, h⟩ := zoB_s h
    refine zr_get F 5 1 zd_XPicture_drawPixel_124 (zW_o hs30 (by decide)) rfl (by decide) zw_431 rfl (by rfl) ?_
    refine zr_tor ea32 ?_
    refine zr_iload_n F zd_XPicture_drawPixel_127 rfl ?_
    refine zr_iload F zd_XPicture_drawPixel_128 rfl ?_
    obtain ⟨le34, hs33, h⟩ := zoS_s h
    obtain ⟨hi35, h⟩ := zoI_s h
    refine zr_iast F zd_XPicture_drawPixel_130 (zW_a0 hs33) hi35 ?_
    obtain ⟨mm36, emm36, h⟩ := zoL_s h
    refine zr_norm (zW tA b sh mm36) _ (by rw [emm36]; exact zW_s0 hs33) rfl ?_
    refine zr_iload F zd_XPicture_drawPixel_131 rfl ?_
    refine zr_sipushv (v := 255) F zd_XPicture_drawPixel_133 (by decide) ?_
    refine zr_icmp_ne F 153 zd_XPicture_drawPixel_136 (by decide) (fun hb37 => ?_) (fun hb37 => ?_)
    ·
      rw [if_neg hb37] at h
      refine zr_pcn 153 rfl ?_
      obtain rfl := Option.some.inj h
      exact zr_vret F hr zd_XPicture_drawPixel_153 (Nat.le_of_ble_eq_true rfl) (Nat.le_of_ble_eq_true rfl) ⟨rfl, rfl, rfl⟩
    ·
      rw [if_pos hb37] at h
      refine zr_aload_n F zd_XPicture_drawPixel_139 rfl ?_
      obtain ⟨le39, hs38, h⟩ := zoS_s h
      obtain ⟨a40, ea40, h⟩ := zoB_s h
      refine zr_get F 5 2 zd_XPicture_drawPixel_140 (zW_o hs38 (by decide)) rfl (by decide) zw_433 rfl (by rfl) ?_
      refine zr_tor ea40 ?_
      refine zr_iload_n F zd_XPicture_drawPixel_143 rfl ?_
      refine zr_aload_n F zd_XPicture_drawPixel_144 rfl ?_
      obtain ⟨le42, hs41, h⟩ := zoS_s h
      obtain ⟨a43, ea43, h⟩ := zoB_s h
      refine zr_get F 5 11 zd_XPicture_drawPixel_145 (zW_o hs41 (by decide)) rfl (by decide) zw_444 rfl (by rfl) ?_
      refine zr_tor ea43 ?_
      obtain ⟨le45, hs44, h⟩ := zoS_s h
      obtain ⟨p46, ep46, h⟩ := zoB_s h
      refine zr_callV1 F (k_XPiece_near l D tA b sh _ ep46) zd_XPicture_drawPixel_148 (zW_o hs44 (by decide)) rfl zs_XPicture_134 rfl zq_XPiece_near rfl rfl ⟨(Nat.le_of_ble_eq_true rfl), (Nat.le_of_ble_eq_true rfl)⟩ (Nat.le_of_ble_eq_true rfl) ⟨(Nat.le_of_ble_eq_true rfl), (Nat.le_of_ble_eq_true rfl)⟩ ?_
      refine zr_l2i F zd_XPicture_drawPixel_151 ?_
      refine zr_pcn 152 rfl ?_
      obtain ⟨x47, ex47, h⟩ := zoL_s h
      rw [← ex47]
      obtain ⟨le49, hs48, h⟩ := zoS_s h
      obtain ⟨hi50, h⟩ := zoI_s h
      refine zr_iast F zd_XPicture_drawPixel_152 (zW_a0 hs48) hi50 ?_
      obtain ⟨mm51, emm51, h⟩ := zoL_s h
      refine zr_norm (zW tA b sh mm51) _ (by rw [emm51]; exact zW_s0 hs48) rfl ?_
      obtain rfl := Option.some.inj h
      exact zr_vret F hr zd_XPicture_drawPixel_153 (Nat.le_of_ble_eq_true rfl) (Nat.le_of_ble_eq_true rfl) ⟨rfl, rfl, rfl⟩
abbrev zb_XPiece_take : ByteArray := prog_7_method_2_code
def zy_XPiece_take : MethodName := ⟨"OrreryBox$Piece", "take", "([IIZ)Z"⟩
theorem zc_XPiece_take : Cond.code zy_XPiece_take zb_XPiece_take 4 (some .boolean) ∈ gw := gw_t 753 (by decide +kernel) rfl
theorem zq_XPiece_take : zy_XPiece_take.cls ≠ "java/lang/invoke/MethodHandle" ∧ zy_XPiece_take.cls ≠ "java/lang/invoke/VarHandle" ∧ (parseMethodDescriptor zy_XPiece_take.desc).map (fun d => d.parameters.length) = some 3 := by decide +kernel
theorem zd_XPiece_take_0 : decode zb_XPiece_take 0 = .ok (.aload_n 1, 1) := by decide +kernel
theorem zd_XPiece_take_1 : decode zb_XPiece_take 1 = .ok (.iconst 0, 1) := by decide +kernel
theorem zd_XPiece_take_2 : decode zb_XPiece_take 2 = .ok (.aload_n 0, 1) := by decide +kernel
theorem zd_XPiece_take_3 : decode zb_XPiece_take 3 = .ok (.getfield 9, 3) := by decide +kernel
theorem zd_XPiece_take_6 : decode zb_XPiece_take 6 = .ok (.iconst 0, 1) := by decide +kernel
theorem zd_XPiece_take_7 : decode zb_XPiece_take 7 = .ok (.bipush 6, 2) := by decide +kernel
theorem zd_XPiece_take_9 : decode zb_XPiece_take 9 = .ok (.invokestatic 15, 3) := by decide +kernel
theorem zd_XPiece_take_12 : decode zb_XPiece_take 12 = .ok (.aload_n 1, 1) := by decide +kernel
theorem zd_XPiece_take_13 : decode zb_XPiece_take 13 = .ok (.bipush 6, 2) := by decide +kernel
theorem zd_XPiece_take_15 : decode zb_XPiece_take 15 = .ok (.iload_n 2, 1) := by decide +kernel
theorem zd_XPiece_take_16 : decode zb_XPiece_take 16 = .ok (.imul, 1) := by decide +kernel
theorem zd_XPiece_take_17 : decode zb_XPiece_take 17 = .ok (.aload_n 0, 1) := by decide +kernel
theorem zd_XPiece_take_18 : decode zb_XPiece_take 18 = .ok (.getfield 9, 3) := by decide +kernel
theorem zd_XPiece_take_21 : decode zb_XPiece_take 21 = .ok (.bipush 6, 2) := by decide +kernel
theorem zd_XPiece_take_23 : decode zb_XPiece_take 23 = .ok (.bipush 12, 2) := by decide +kernel
theorem zd_XPiece_take_25 : decode zb_XPiece_take 25 = .ok (.invokestatic 15, 3) := by decide +kernel
theorem zd_XPiece_take_28 : decode zb_XPiece_take 28 = .ok (.aload_n 0, 1) := by decide +kernel
theorem zd_XPiece_take_29 : decode zb_XPiece_take 29 = .ok (.aload_n 0, 1) := by decide +kernel
theorem zd_XPiece_take_30 : decode zb_XPiece_take 30 = .ok (.iconst 0, 1) := by decide +kernel
theorem zd_XPiece_take_31 : decode zb_XPiece_take 31 = .ok (.iconst 1, 1) := by decide +kernel
theorem zd_XPiece_take_32 : decode zb_XPiece_take 32 = .ok (.invokevirtual 21, 3) := by decide +kernel
theorem zd_XPiece_take_35 : decode zb_XPiece_take 35 = .ok (.putfield 25, 3) := by decide +kernel
theorem zd_XPiece_take_38 : decode zb_XPiece_take 38 = .ok (.aload_n 0, 1) := by decide +kernel
theorem zd_XPiece_take_39 : decode zb_XPiece_take 39 = .ok (.getfield 25, 3) := by decide +kernel
theorem zd_XPiece_take_42 : decode zb_XPiece_take 42 = .ok (.lconst 0, 1) := by decide +kernel
theorem zd_XPiece_take_43 : decode zb_XPiece_take 43 = .ok (.lcmp, 1) := by decide +kernel
theorem zd_XPiece_take_44 : decode zb_XPiece_take 44 = .ok (.ifCond .ge 50, 3) := by decide +kernel
theorem zd_XPiece_take_47 : decode zb_XPiece_take 47 = .ok (.iload_n 3, 1) := by decide +kernel
theorem zd_XPiece_take_48 : decode zb_XPiece_take 48 = .ok (.ifCond .eq 46, 3) := by decide +kernel
theorem zd_XPiece_take_51 : decode zb_XPiece_take 51 = .ok (.aload_n 1, 1) := by decide +kernel
theorem zd_XPiece_take_52 : decode zb_XPiece_take 52 = .ok (.bipush 6, 2) := by decide +kernel
theorem zd_XPiece_take_54 : decode zb_XPiece_take 54 = .ok (.iload_n 2, 1) := by decide +kernel
theorem zd_XPiece_take_55 : decode zb_XPiece_take 55 = .ok (.imul, 1) := by decide +kernel
theorem zd_XPiece_take_56 : decode zb_XPiece_take 56 = .ok (.aload_n 0, 1) := by decide +kernel
theorem zd_XPiece_take_57 : decode zb_XPiece_take 57 = .ok (.getfield 9, 3) := by decide +kernel
theorem zd_XPiece_take_60 : decode zb_XPiece_take 60 = .ok (.bipush 12, 2) := by decide +kernel
theorem zd_XPiece_take_62 : decode zb_XPiece_take 62 = .ok (.bipush 6, 2) := by decide +kernel
theorem zd_XPiece_take_64 : decode zb_XPiece_take 64 = .ok (.invokestatic 15, 3) := by decide +kernel
theorem zd_XPiece_take_67 : decode zb_XPiece_take 67 = .ok (.aload_n 1, 1) := by decide +kernel
theorem zd_XPiece_take_68 : decode zb_XPiece_take 68 = .ok (.bipush 6, 2) := by decide +kernel
theorem zd_XPiece_take_70 : decode zb_XPiece_take 70 = .ok (.iload_n 2, 1) := by decide +kernel
theorem zd_XPiece_take_71 : decode zb_XPiece_take 71 = .ok (.iconst 1, 1) := by decide +kernel
theorem zd_XPiece_take_72 : decode zb_XPiece_take 72 = .ok (.iadd, 1) := by decide +kernel
theorem zd_XPiece_take_73 : decode zb_XPiece_take 73 = .ok (.imul, 1) := by decide +kernel
theorem zd_XPiece_take_74 : decode zb_XPiece_take 74 = .ok (.aload_n 0, 1) := by decide +kernel
theorem zd_XPiece_take_75 : decode zb_XPiece_take 75 = .ok (.getfield 9, 3) := by decide +kernel
theorem zd_XPiece_take_78 : decode zb_XPiece_take 78 = .ok (.bipush 6, 2) := by decide +kernel
theorem zd_XPiece_take_80 : decode zb_XPiece_take 80 = .ok (.bipush 6, 2) := by decide +kernel
theorem zd_XPiece_take_82 : decode zb_XPiece_take 82 = .ok (.invokestatic 15, 3) := by decide +kernel
theorem zd_XPiece_take_85 : decode zb_XPiece_take 85 = .ok (.aload_n 0, 1) := by decide +kernel
theorem zd_XPiece_take_86 : decode zb_XPiece_take 86 = .ok (.aload_n 0, 1) := by decide +kernel
theorem zd_XPiece_take_87 : decode zb_XPiece_take 87 = .ok (.getfield 25, 3) := by decide +kernel
theorem zd_XPiece_take_90 : decode zb_XPiece_take 90 = .ok (.lneg, 1) := by decide +kernel
theorem zd_XPiece_take_91 : decode zb_XPiece_take 91 = .ok (.putfield 25, 3) := by decide +kernel
theorem zd_XPiece_take_94 : decode zb_XPiece_take 94 = .ok (.aload_n 0, 1) := by decide +kernel
theorem zd_XPiece_take_95 : decode zb_XPiece_take 95 = .ok (.getfield 25, 3) := by decide +kernel
theorem zd_XPiece_take_98 : decode zb_XPiece_take 98 = .ok (.lconst 0, 1) := by decide +kernel
theorem zd_XPiece_take_99 : decode zb_XPiece_take 99 = .ok (.lcmp, 1) := by decide +kernel
theorem zd_XPiece_take_100 : decode zb_XPiece_take 100 = .ok (.ifCond .le 7, 3) := by decide +kernel
theorem zd_XPiece_take_103 : decode zb_XPiece_take 103 = .ok (.iconst 1, 1) := by decide +kernel
theorem zd_XPiece_take_104 : decode zb_XPiece_take 104 = .ok (.goto 4, 3) := by decide +kernel
theorem zd_XPiece_take_107 : decode zb_XPiece_take 107 = .ok (.iconst 0, 1) := by decide +kernel
theorem zd_XPiece_take_108 : decode zb_XPiece_take 108 = .ok (.ireturn, 1) := by decide +kernel
theorem zf_L_6_0 (b : Nat) (m : zMem) (k : Nat) (v : Int64) : (zfl b 6 m k).set 0 (.long v) = zfl b 6 (mL m k 0 v) k := by simp [zfl, mL, upd, vp_updL]
def F_XPiece_take (sh : zSh) (mm : zMem) (o : Nat) (x0_ : Nat) (x1_ : Int32) (x2_ : Int32) : Option (Int32 × zMem) := zoS (sh o) 6 (fun le2 => Option.bind (mm.2.2 o 1) (fun a3 => zoS (sh x0_) 100 (fun le4 => zoS (sh a3) 100 (fun le6 => if ¬ (0 : Int32) < 0 ∧ ¬ (0 : Int32) < 0 ∧ ¬ (6 : Int32) < 0 ∧ (0 : Int32).toNatClampNeg + (6 : Int32).toNatClampNeg ≤ le4 ∧ (0 : Int32).toNatClampNeg + (6 : Int32).toNatClampNeg ≤ le6 then zoL (mC mm x0_ a3 (0 : Int32).toNatClampNeg (0 : Int32).toNatClampNeg (6 : Int32).toNatClampNeg) (fun mm9 => zoS (sh o) 6 (fun le11 => Option.bind (mm9.2.2 o 1) (fun a12 => zoL (6 * x1_) (fun x13 => zoS (sh x0_) 100 (fun le14 => zoS (sh a12) 100 (fun le16 => if ¬ (x13 : Int32) < 0 ∧ ¬ (6 : Int32) < 0 ∧ ¬ (12 : Int32) < 0 ∧ (x13 : Int32).toNatClampNeg + (12 : Int32).toNatClampNeg ≤ le14 ∧ (6 : Int32).toNatClampNeg + (12 : Int32).toNatClampNeg ≤ le16 then zoL (mC mm9 x0_ a12 (x13 : Int32).toNatClampNeg (6 : Int32).toNatClampNeg (12 : Int32).toNatClampNeg) (fun mm19 => zoS (sh o) 6 (fun le21 => Option.bind (F_XPiece_cross sh mm19 o 0 1) (fun p22 => zoS (sh o) 6 (fun le24 => zoL (mL (p22.2) o 0 (p22.1)) (fun mm25 => zoS (sh o) 6 (fun le27 => (if 0 ≤ (lg_cmp (mm25.2.1 o 0) 0) then zoS (sh o) 6 (fun le30 => (if (lg_cmp (mm25.2.1 o 0) 0) ≤ 0 then some (0, mm25) else some (1, mm25))) else (if x2_ = 0 then zoS (sh o) 6 (fun le34 => (if (lg_cmp (mm25.2.1 o 0) 0) ≤ 0 then some (0, mm25) else some (1, mm25))) else zoS (sh o) 6 (fun le37 => Option.bind (mm25.2.2 o 1) (fun a38 => zoL (6 * x1_) (fun x39 => zoS (sh x0_) 100 (fun le40 => zoS (sh a38) 100 (fun le42 => if ¬ (x39 : Int32) < 0 ∧ ¬ (12 : Int32) < 0 ∧ ¬ (6 : Int32) < 0 ∧ (x39 : Int32).toNatClampNeg + (6 : Int32).toNatClampNeg ≤ le40 ∧ (12 : Int32).toNatClampNeg + (6 : Int32).toNatClampNeg ≤ le42 then zoL (mC mm25 x0_ a38 (x39 : Int32).toNatClampNeg (12 : Int32).toNatClampNeg (6 : Int32).toNatClampNeg) (fun mm45 => zoS (sh o) 6 (fun le47 => Option.bind (mm45.2.2 o 1) (fun a48 => zoL (6 * (x1_ + 1)) (fun x49 => zoS (sh x0_) 100 (fun le50 => zoS (sh a48) 100 (fun le52 => if ¬ (x49 : Int32) < 0 ∧ ¬ (6 : Int32) < 0 ∧ ¬ (6 : Int32) < 0 ∧ (x49 : Int32).toNatClampNeg + (6 : Int32).toNatClampNeg ≤ le50 ∧ (6 : Int32).toNatClampNeg + (6 : Int32).toNatClampNeg ≤ le52 then zoL (mC mm45 x0_ a48 (x49 : Int32).toNatClampNeg (6 : Int32).toNatClampNeg (6 : Int32).toNatClampNeg) (fun mm55 => zoS (sh o) 6 (fun le57 => zoL (-(mm55.2.1 o 0)) (fun x58 => zoS (sh o) 6 (fun le60 => zoL (mL mm55 o 0 x58) (fun mm61 => zoS (sh o) 6 (fun le63 => (if (lg_cmp (mm61.2.1 o 0) 0) ≤ 0 then some (0, mm61) else some (1, mm61)))))))) else none)))))) else none))))))))))))) else none)))))) else none))))
set_option maxHeartbeats 4000000 in
set_option maxRecDepth 100000 in
theorem k_XPiece_take (l : Launch) (D : va_G) (tA : Nat → ClassId) (b : Nat) (sh : zSh) (n : Nat) {mm : zMem} {o : Nat} {x0_ : Nat} {x1_ : Int32} {x2_ : Int32} {r : (Int32 × zMem)} (h : F_XPiece_take sh mm o x0_ x1_ x2_ = some r) : zM l D tA b zy_XPiece_take zb_XPiece_take 4 (some .boolean) 1 60 0 0 [.ref (b + o), .ref (b + x0_), .int x1_, .int x2_] (zW tA b sh mm) n (zE (some (.int (r.1))) (zW tA b sh r.2) n) := by
  unfold F_XPiece_take at h
  refine zM_of (own := "OrreryBox$Piece") (plainFor_of_name (by decide)) rfl (Nat.le_of_ble_eq_true rfl) (fun p e s m below meth c F hr hin hH => ?_)
  refine zr_aload_n F zd_XPiece_take_0 rfl ?_
  refine zr_iconstv (v := 0) F zd_XPiece_take_1 (by decide) ?_
  refine zr_aload_n F zd_XPiece_take_2 rfl ?_
  obtain ⟨le2, hs1, h⟩ := zoS_s h
  obtain ⟨a3, ea3, h⟩ := zoB_s h
  refine zr_get F 6 1 zd_XPiece_take_3 (zW_o hs1 (by decide)) rfl (by decide) zw_351 rfl (by rfl) ?_
  refine zr_tor ea3 ?_
  refine zr_iconstv (v := 0) F zd_XPiece_take_6 (by decide) ?_
  refine zr_bipushv (v := 6) F zd_XPiece_take_7 (by decide) ?_
  obtain ⟨le4, hs5, h⟩ := zoS_s h
  obtain ⟨le6, hs7, h⟩ := zoS_s h
  obtain ⟨hc8, h⟩ := zoT_s h
  obtain ⟨mm9, emm9, h⟩ := zoL_s h
  refine zr_copy F zd_XPiece_take_9 zw_754 zw_724 zw_723 zw_26 (zW_a0 hs5) (zW_a0 hs7) hc8.1 hc8.2.1 hc8.2.2.1 hc8.2.2.2.1 hc8.2.2.2.2 (Nat.le_of_ble_eq_true rfl) (Nat.le_of_ble_eq_true rfl) ?_
  refine zr_norm (zW tA b sh mm9) _ (by rw [emm9]; exact zW_c hs7) rfl ?_
  refine zr_pcn 12 rfl ?_
  refine zr_aload_n F zd_XPiece_take_12 rfl ?_
  refine zr_bipushv (v := 6) F zd_XPiece_take_13 (by decide) ?_
  refine zr_iload_n F zd_XPiece_take_15 rfl ?_
  refine zr_imul F zd_XPiece_take_16 ?_
  refine zr_aload_n F zd_XPiece_take_17 rfl ?_
  obtain ⟨le11, hs10, h⟩ := zoS_s h
  obtain ⟨a12, ea12, h⟩ := zoB_s h
  refine zr_get F 6 1 zd_XPiece_take_18 (zW_o hs10 (by decide)) rfl (by decide) zw_351 rfl (by rfl) ?_
  refine zr_tor ea12 ?_
  refine zr_bipushv (v := 6) F zd_XPiece_take_21 (by decide) ?_
  refine zr_bipushv (v := 12) F zd_XPiece_take_23 (by decide) ?_
  refine zr_pcn 25 rfl ?_
  obtain ⟨x13, ex13, h⟩ := zoL_s h
  rw [← ex13]
  obtain ⟨le14, hs15, h⟩ := zoS_s h
  obtain ⟨le16, hs17, h⟩ := zoS_s h
  obtain ⟨hc18, h⟩ := zoT_s h
  obtain ⟨mm19, emm19, h⟩ := zoL_s h
  refine zr_copy F zd_XPiece_take_25 zw_754 zw_724 zw_723 zw_26 (zW_a0 hs15) (zW_a0 hs17) hc18.1 hc18.2.1 hc18.2.2.1 hc18.2.2.2.1 hc18.2.2.2.2 (Nat.le_of_ble_eq_true rfl) (Nat.le_of_ble_eq_true rfl) ?_
  refine zr_norm (zW tA b sh mm19) _ (by rw [emm19]; exact zW_c hs17) rfl ?_
  refine zr_aload_n F zd_XPiece_take_28 rfl ?_
  refine zr_aload_n F zd_XPiece_take_29 rfl ?_
  refine zr_iconstv (v := 0) F zd_XPiece_take_30 (by decide) ?_
  refine zr_iconstv (v := 1) F zd_XPiece_take_31 (by decide) ?_
  obtain ⟨le21, hs20, h⟩ := zoS_s h
  obtain ⟨p22, ep22, h⟩ := zoB_s h
  refine zr_callV1 F (k_XPiece_cross l D tA b sh _ ep22) zd_XPiece_take_32 (zW_o hs20 (by decide)) rfl zs_XPiece_21 rfl zq_XPiece_cross rfl rfl ⟨(Nat.le_of_ble_eq_true rfl), (Nat.le_of_ble_eq_true rfl)⟩ (Nat.le_of_ble_eq_true rfl) ⟨(Nat.le_of_ble_eq_true rfl), (Nat.le_of_ble_eq_true rfl)⟩ ?_
  obtain ⟨le24, hs23, h⟩ := zoS_s h
  refine zr_put F 6 0 zd_XPiece_take_35 (zW_o hs23 (by decide)) rfl (by decide) zw_349 rfl rfl rfl rfl (by exact (Nat.le_of_ble_eq_true rfl)) ?_
  obtain ⟨mm25, emm25, h⟩ := zoL_s h
  refine zr_norm (zW tA b sh mm25) _ (by rw [emm25]; exact zW_pL (v := (p22.1)) hs23 (by decide) (zf_L_6_0 b _ _ _)) rfl ?_
  refine zr_aload_n F zd_XPiece_take_38 rfl ?_
  refine zr_pcn 39 rfl ?_
  obtain ⟨le27, hs26, h⟩ := zoS_s h
  refine zr_get F 6 0 zd_XPiece_take_39 (zW_o hs26 (by decide)) rfl (by decide) zw_349 rfl (by rfl) ?_
  refine zr_lconstv (v := 0) F zd_XPiece_take_42 (by decide) ?_
  refine zr_lcmp F zd_XPiece_take_43 ?_
  refine zr_if_ge F 94 zd_XPiece_take_44 (by decide) (fun hb28 => ?_) (fun hb28 => ?_)
  ·
    rw [if_pos hb28] at h
    refine zr_aload_n F zd_XPiece_take_94 rfl ?_
    obtain ⟨le30, hs29, h⟩ := zoS_s h
    refine zr_get F 6 0 zd_XPiece_take_95 (zW_o hs29 (by decide)) rfl (by decide) zw_349 rfl (by rfl) ?_
    refine zr_lconstv (v := 0) F zd_XPiece_take_98 (by decide) ?_
    refine zr_lcmp F zd_XPiece_take_99 ?_
    refine zr_pcn 100 rfl ?_
    refine zr_if_le F 107 zd_XPiece_take_100 (by decide) (fun hb31 => ?_) (fun hb31 => ?_)
    ·
      rw [if_pos hb31] at h
      refine zr_iconstv (v := 0) F zd_XPiece_take_107 (by decide) ?_
      obtain rfl := Option.some.inj h
      exact zr_zret F hr rfl zd_XPiece_take_108 (Nat.le_of_ble_eq_true rfl) (Nat.le_of_ble_eq_true rfl) ⟨rfl, rfl, rfl⟩
    ·
      rw [if_neg hb31] at h
      refine zr_iconstv (v := 1) F zd_XPiece_take_103 (by decide) ?_
      refine zr_goto F 108 zd_XPiece_take_104 (by decide) ?_
      obtain rfl := Option.some.inj h
      exact zr_zret F hr rfl zd_XPiece_take_108 (Nat.le_of_ble_eq_true rfl) (Nat.le_of_ble_eq_true rfl) ⟨rfl, rfl, rfl⟩
  ·
    rw [if_neg hb28] at h
    refine zr_iload_n F zd_XPiece_take_47 rfl ?_
    refine zr_if_eq F 94 zd_XPiece_take_48 (by decide) (fun hb32 => ?_) (fun hb32 => ?_)
    ·
      rw [if_pos hb32] at h
      refine zr_pcn 94 rfl ?_
      refine zr_aload_n F zd_XPiece_take_94 rfl ?_
      obtain ⟨le34, hs33, h⟩ := zoS_s h
      refine zr_get F 6 0 zd_XPiece_take_95 (zW_o hs33 (by decide)) rfl (by decide) zw_349 rfl (by rfl) ?_
      refine zr_lconstv (v := 0) F zd_XPiece_take_98 (by decide) ?_
      refine zr_lcmp F zd_XPiece_take_99 ?_
      refine zr_if_le F 107 zd_XPiece_take_100 (by decide) (fun hb35 => ?_) (fun hb35 => ?_)
      ·
        rw [if_pos hb35] at h
        refine zr_iconstv (v := 0) F zd_XPiece_take_107 (by decide) ?_
        obtain rfl := Option.some.inj h
        exact zr_zret F hr rfl zd_XPiece_take_108 (Nat.le_of_ble_eq_true rfl) (Nat.le_of_ble_eq_true rfl) ⟨rfl, rfl, rfl⟩
      ·
        rw [if_neg hb35] at h
        refine zr_iconstv (v := 1) F zd_XPiece_take_103 (by decide) ?_
        refine zr_pcn 104 rfl ?_
        refine zr_goto F 108 zd_XPiece_take_104 (by decide) ?_
        obtain rfl := Option.some.inj h
        exact zr_zret F hr rfl zd_XPiece_take_108 (Nat.le_of_ble_eq_true rfl) (Nat.le_of_ble_eq_true rfl) ⟨rfl, rfl, rfl⟩
    ·
      rw [if_neg hb32] at h
      refine zr_aload_n F zd_XPiece_take_51 rfl ?_
      refine zr_bipushv (v := 6) F zd_XPiece_take_52 (by decide) ?_
      refine zr_iload_n F zd_XPiece_take_54 rfl ?_
      refine zr_imul F zd_XPiece_take_55 ?_
      refine zr_aload_n F zd_XPiece_take_56 rfl ?_
      obtain ⟨le37, hs36, h⟩ := zoS_s h
      obtain ⟨a38, ea38, h⟩ := zoB_s h
      refine zr_get F 6 1 zd_XPiece_take_57 (zW_o hs36 (by decide)) rfl (by decide) zw_351 rfl (by rfl) ?_
      refine zr_tor ea38 ?_
      refine zr_pcn 60 rfl ?_
      refine zr_bipushv (v := 12) F zd_XPiece_take_60 (by decide) ?_
      refine zr_bipushv (v := 6) F zd_XPiece_take_62 (by decide) ?_
      obtain ⟨x39, ex39, h⟩ := zoL_s h
      rw [← ex39]
      obtain ⟨le40, hs41, h⟩ := zoS_s h
      obtain ⟨le42, hs43, h⟩ := zoS_s h
      obtain ⟨hc44, h⟩ := zoT_s h
      obtain ⟨mm45, emm45, h⟩ := zoL_s h
      refine zr_copy F zd_XPiece_take_64 zw_754 zw_724 zw_723 zw_26 (zW_a0 hs41) (zW_a0 hs43) hc44.1 hc44.2.1 hc44.2.2.1 hc44.2.2.2.1 hc44.2.2.2.2 (Nat.le_of_ble_eq_true rfl) (Nat.le_of_ble_eq_true rfl) ?_
      refine zr_norm (zW tA b sh mm45) _ (by rw [emm45]; exact zW_c hs43) rfl ?_
      refine zr_aload_n F zd_XPiece_take_67 rfl ?_
      refine zr_bipushv (v := 6) F zd_XPiece_take_68 (by decide) ?_
      refine zr_iload_n F zd_XPiece_take_70 rfl ?_
      refine zr_iconstv (v := 1) F zd_XPiece_take_71 (by decide) ?_
      refine zr_iadd F zd_XPiece_take_72 ?_
      refine zr_pcn 73 rfl ?_
      refine zr_imul F zd_XPiece_take_73 ?_
      refine zr_aload_n F zd_XPiece_take_74 rfl ?_
      obtain ⟨le47, hs46, h⟩ := zoS_s h
      obtain ⟨a48, ea48, h⟩ := zoB_s h
      refine zr_get F 6 1 zd_XPiece_take_75 (zW_o hs46 (by decide)) rfl (by decide) zw_351 rfl (by rfl) ?_
      refine zr_tor ea48 ?_
      refine zr_bipushv (v := 6) F zd_XPiece_take_78 (by decide) ?_
      refine zr_bipushv (v := 6) F zd_XPiece_take_80 (by decide) ?_
      obtain ⟨x49, ex49, h⟩ := zoL_s h
      rw [← ex49]
      obtain ⟨le50, hs51, h⟩ := zoS_s h
      obtain ⟨le52, hs53, h⟩ := zoS_s h
      obtain ⟨hc54, h⟩ := zoT_s h
      obtain ⟨mm55, emm55, h⟩ := zoL_s h
      refine zr_copy F zd_XPiece_take_82 zw_754 zw_724 zw_723 zw_26 (zW_a0 hs51) (zW_a0 hs53) hc54.1 hc54.2.1 hc54.2.2.1 hc54.2.2.2.1 hc54.2.2.2.2 (Nat.le_of_ble_eq_true rfl) (Nat.le_of_ble_eq_true rfl) ?_
      refine zr_norm (zW tA b sh mm55) _ (by rw [emm55]; exact zW_c hs53) rfl ?_
      refine zr_aload_n F zd_XPiece_take_85 rfl ?_
      refine zr_aload_n F zd_XPiece_take_86 rfl ?_
      refine zr_pcn 87 rfl ?_
      obtain ⟨le57, hs56, h⟩ := zoS_s h
      refine zr_get F 6 0 zd_XPiece_take_87 (zW_o hs56 (by decide)) rfl (by decide) zw_349 rfl (by rfl) ?_
      refine zr_lneg F zd_XPiece_take_90 ?_
      obtain ⟨x58, ex58, h⟩ := zoL_s h
      rw [← ex58]
      obtain ⟨le60, hs59, h⟩ := zoS_s h
      refine zr_put F 6 0 zd_XPiece_take_91 (zW_o hs59 (by decide)) rfl (by decide) zw_349 rfl rfl rfl rfl (by exact (Nat.le_of_ble_eq_true rfl)) ?_
      obtain ⟨mm61, emm61, h⟩ := zoL_s h
      refine zr_norm (zW tA b sh mm61) _ (by rw [emm61]; exact zW_pL (v := x58) hs59 (by decide) (zf_L_6_0 b _ _ _)) rfl ?_
      refine zr_aload_n F zd_XPiece_take_94 rfl ?_
      obtain ⟨le63, hs62, h⟩ := zoS_s h
      refine zr_get F 6 0 zd_XPiece_take_95 (zW_o hs62 (by decide)) rfl (by decide) zw_349 rfl (by rfl) ?_
      refine zr_lconstv (v := 0) F zd_XPiece_take_98 (by decide) ?_
      refine zr_lcmp F zd_XPiece_take_99 ?_
      refine zr_if_le F 107 zd_XPiece_take_100 (by decide) (fun hb64 => ?_) (fun hb64 => ?_)
      ·
        rw [if_pos hb64] at h
        refine zr_pcn 107 rfl ?_
        refine zr_iconstv (v := 0) F zd_XPiece_take_107 (by decide) ?_
        obtain rfl := Option.some.inj h
        exact zr_zret F hr rfl zd_XPiece_take_108 (Nat.le_of_ble_eq_true rfl) (Nat.le_of_ble_eq_true rfl) ⟨rfl, rfl, rfl⟩
      ·
        rw [if_neg hb64] at h
        refine zr_iconstv (v := 1) F zd_XPiece_take_103 (by decide) ?_
        refine zr_goto F 108 zd_XPiece_take_104 (by decide) ?_
        obtain rfl := Option.some.inj h
        exact zr_zret F hr rfl zd_XPiece_take_108 (Nat.le_of_ble_eq_true rfl) (Nat.le_of_ble_eq_true rfl) ⟨rfl, rfl, rfl⟩
abbrev zb_XPiece_takeAt : ByteArray := prog_7_method_4_code
def zy_XPiece_takeAt : MethodName := ⟨"OrreryBox$Piece", "takeAt", "([II)V"⟩
theorem zc_XPiece_takeAt : Cond.code zy_XPiece_takeAt zb_XPiece_takeAt 3 none ∈ gw := gw_t 788 (by decide +kernel) rfl
theorem zq_XPiece_takeAt : zy_XPiece_takeAt.cls ≠ "java/lang/invoke/MethodHandle" ∧ zy_XPiece_takeAt.cls ≠ "java/lang/invoke/VarHandle" ∧ (parseMethodDescriptor zy_XPiece_takeAt.desc).map (fun d => d.parameters.length) = some 2 := by decide +kernel
theorem zd_XPiece_takeAt_0 : decode zb_XPiece_takeAt 0 = .ok (.aload_n 1, 1) := by decide +kernel
theorem zd_XPiece_takeAt_1 : decode zb_XPiece_takeAt 1 = .ok (.iload_n 2, 1) := by decide +kernel
theorem zd_XPiece_takeAt_2 : decode zb_XPiece_takeAt 2 = .ok (.aload_n 0, 1) := by decide +kernel
theorem zd_XPiece_takeAt_3 : decode zb_XPiece_takeAt 3 = .ok (.getfield 9, 3) := by decide +kernel
theorem zd_XPiece_takeAt_6 : decode zb_XPiece_takeAt 6 = .ok (.iconst 0, 1) := by decide +kernel
theorem zd_XPiece_takeAt_7 : decode zb_XPiece_takeAt 7 = .ok (.bipush 18, 2) := by decide +kernel
theorem zd_XPiece_takeAt_9 : decode zb_XPiece_takeAt 9 = .ok (.invokestatic 15, 3) := by decide +kernel
theorem zd_XPiece_takeAt_12 : decode zb_XPiece_takeAt 12 = .ok (.aload_n 0, 1) := by decide +kernel
theorem zd_XPiece_takeAt_13 : decode zb_XPiece_takeAt 13 = .ok (.aload_n 0, 1) := by decide +kernel
theorem zd_XPiece_takeAt_14 : decode zb_XPiece_takeAt 14 = .ok (.iconst 0, 1) := by decide +kernel
theorem zd_XPiece_takeAt_15 : decode zb_XPiece_takeAt 15 = .ok (.iconst 1, 1) := by decide +kernel
theorem zd_XPiece_takeAt_16 : decode zb_XPiece_takeAt 16 = .ok (.invokevirtual 21, 3) := by decide +kernel
theorem zd_XPiece_takeAt_19 : decode zb_XPiece_takeAt 19 = .ok (.putfield 25, 3) := by decide +kernel
theorem zd_XPiece_takeAt_22 : decode zb_XPiece_takeAt 22 = .ok (.return_, 1) := by decide +kernel
def F_XPiece_takeAt (sh : zSh) (mm : zMem) (o : Nat) (x0_ : Nat) (x1_ : Int32) : Option zMem := zoS (sh o) 6 (fun le2 => Option.bind (mm.2.2 o 1) (fun a3 => zoS (sh x0_) 100 (fun le4 => zoS (sh a3) 100 (fun le6 => if ¬ (x1_ : Int32) < 0 ∧ ¬ (0 : Int32) < 0 ∧ ¬ (18 : Int32) < 0 ∧ (x1_ : Int32).toNatClampNeg + (18 : Int32).toNatClampNeg ≤ le4 ∧ (0 : Int32).toNatClampNeg + (18 : Int32).toNatClampNeg ≤ le6 then zoL (mC mm x0_ a3 (x1_ : Int32).toNatClampNeg (0 : Int32).toNatClampNeg (18 : Int32).toNatClampNeg) (fun mm9 => zoS (sh o) 6 (fun le11 => Option.bind (F_XPiece_cross sh mm9 o 0 1) (fun p12 => zoS (sh o) 6 (fun le14 => zoL (mL (p12.2) o 0 (p12.1)) (fun mm15 => some mm15))))) else none))))
set_option maxHeartbeats 4000000 in
set_option maxRecDepth 100000 in
theorem k_XPiece_takeAt (l : Launch) (D : va_G) (tA : Nat → ClassId) (b : Nat) (sh : zSh) (n : Nat) {mm : zMem} {o : Nat} {x0_ : Nat} {x1_ : Int32} {r : zMem} (h : F_XPiece_takeAt sh mm o x0_ x1_ = some r) : zM l D tA b zy_XPiece_takeAt zb_XPiece_takeAt 3 none 1 60 0 0 [.ref (b + o), .ref (b + x0_), .int x1_] (zW tA b sh mm) n (zE none (zW tA b sh r) n) := by
  unfold F_XPiece_takeAt at h
  refine zM_of (own := "OrreryBox$Piece") (plainFor_of_name (by decide)) rfl (Nat.le_of_ble_eq_true rfl) (fun p e s m below meth c F hr hin hH => ?_)
  refine zr_aload_n F zd_XPiece_takeAt_0 rfl ?_
  refine zr_iload_n F zd_XPiece_takeAt_1 rfl ?_
  refine zr_aload_n F zd_XPiece_takeAt_2 rfl ?_
  obtain ⟨le2, hs1, h⟩ := zoS_s h
  obtain ⟨a3, ea3, h⟩ := zoB_s h
  refine zr_get F 6 1 zd_XPiece_takeAt_3 (zW_o hs1 (by decide)) rfl (by decide) zw_351 rfl (by rfl) ?_
  refine zr_tor ea3 ?_
  refine zr_iconstv (v := 0) F zd_XPiece_takeAt_6 (by decide) ?_
  refine zr_bipushv (v := 18) F zd_XPiece_takeAt_7 (by decide) ?_
  obtain ⟨le4, hs5, h⟩ := zoS_s h
  obtain ⟨le6, hs7, h⟩ := zoS_s h
  obtain ⟨hc8, h⟩ := zoT_s h
  obtain ⟨mm9, emm9, h⟩ := zoL_s h
  refine zr_copy F zd_XPiece_takeAt_9 zw_754 zw_724 zw_723 zw_26 (zW_a0 hs5) (zW_a0 hs7) hc8.1 hc8.2.1 hc8.2.2.1 hc8.2.2.2.1 hc8.2.2.2.2 (Nat.le_of_ble_eq_true rfl) (Nat.le_of_ble_eq_true rfl) ?_
  refine zr_norm (zW tA b sh mm9) _ (by rw [emm9]; exact zW_c hs7) rfl ?_
  refine zr_pcn 12 rfl ?_
  refine zr_aload_n F zd_XPiece_takeAt_12 rfl ?_
  refine zr_aload_n F zd_XPiece_takeAt_13 rfl ?_
  refine zr_iconstv (v := 0) F zd_XPiece_takeAt_14 (by decide) ?_
  refine zr_iconstv (v := 1) F zd_XPiece_takeAt_15 (by decide) ?_
  obtain ⟨le11, hs10, h⟩ := zoS_s h
  obtain ⟨p12, ep12, h⟩ := zoB_s h
  refine zr_callV1 F (k_XPiece_cross l D tA b sh _ ep12) zd_XPiece_takeAt_16 (zW_o hs10 (by decide)) rfl zs_XPiece_21 rfl zq_XPiece_cross rfl rfl ⟨(Nat.le_of_ble_eq_true rfl), (Nat.le_of_ble_eq_true rfl)⟩ (Nat.le_of_ble_eq_true rfl) ⟨(Nat.le_of_ble_eq_true rfl), (Nat.le_of_ble_eq_true rfl)⟩ ?_
  obtain ⟨le14, hs13, h⟩ := zoS_s h
  refine zr_put F 6 0 zd_XPiece_takeAt_19 (zW_o hs13 (by decide)) rfl (by decide) zw_349 rfl rfl rfl rfl (by exact (Nat.le_of_ble_eq_true rfl)) ?_
  obtain ⟨mm15, emm15, h⟩ := zoL_s h
  refine zr_norm (zW tA b sh mm15) _ (by rw [emm15]; exact zW_pL (v := (p12.1)) hs13 (by decide) (zf_L_6_0 b _ _ _)) rfl ?_
  obtain rfl := Option.some.inj h
  exact zr_vret F hr zd_XPiece_takeAt_22 (Nat.le_of_ble_eq_true rfl) (Nat.le_of_ble_eq_true rfl) ⟨rfl, rfl, rfl⟩
abbrev zb_XPiece_covers : ByteArray := prog_7_method_10_code
def zy_XPiece_covers : MethodName := ⟨"OrreryBox$Piece", "covers", "(II)Z"⟩
theorem zc_XPiece_covers : Cond.code zy_XPiece_covers zb_XPiece_covers 5 (some .boolean) ∈ gw := gw_t 820 (by decide +kernel) rfl
theorem zq_XPiece_covers : zy_XPiece_covers.cls ≠ "java/lang/invoke/MethodHandle" ∧ zy_XPiece_covers.cls ≠ "java/lang/invoke/VarHandle" ∧ (parseMethodDescriptor zy_XPiece_covers.desc).map (fun d => d.parameters.length) = some 2 := by decide +kernel
theorem zd_XPiece_covers_0 : decode zb_XPiece_covers 0 = .ok (.bipush 16, 2) := by decide +kernel
theorem zd_XPiece_covers_2 : decode zb_XPiece_covers 2 = .ok (.iload_n 1, 1) := by decide +kernel
theorem zd_XPiece_covers_3 : decode zb_XPiece_covers 3 = .ok (.imul, 1) := by decide +kernel
theorem zd_XPiece_covers_4 : decode zb_XPiece_covers 4 = .ok (.bipush 8, 2) := by decide +kernel
theorem zd_XPiece_covers_6 : decode zb_XPiece_covers 6 = .ok (.iadd, 1) := by decide +kernel
theorem zd_XPiece_covers_7 : decode zb_XPiece_covers 7 = .ok (.istore_n 3, 1) := by decide +kernel
theorem zd_XPiece_covers_8 : decode zb_XPiece_covers 8 = .ok (.bipush 16, 2) := by decide +kernel
theorem zd_XPiece_covers_10 : decode zb_XPiece_covers 10 = .ok (.iload_n 2, 1) := by decide +kernel
theorem zd_XPiece_covers_11 : decode zb_XPiece_covers 11 = .ok (.imul, 1) := by decide +kernel
theorem zd_XPiece_covers_12 : decode zb_XPiece_covers 12 = .ok (.bipush 8, 2) := by decide +kernel
theorem zd_XPiece_covers_14 : decode zb_XPiece_covers 14 = .ok (.iadd, 1) := by decide +kernel
theorem zd_XPiece_covers_15 : decode zb_XPiece_covers 15 = .ok (.istore 4, 2) := by decide +kernel
theorem zd_XPiece_covers_17 : decode zb_XPiece_covers 17 = .ok (.aload_n 0, 1) := by decide +kernel
theorem zd_XPiece_covers_18 : decode zb_XPiece_covers 18 = .ok (.aload_n 0, 1) := by decide +kernel
theorem zd_XPiece_covers_19 : decode zb_XPiece_covers 19 = .ok (.bipush 6, 2) := by decide +kernel
theorem zd_XPiece_covers_21 : decode zb_XPiece_covers 21 = .ok (.bipush 12, 2) := by decide +kernel
theorem zd_XPiece_covers_23 : decode zb_XPiece_covers 23 = .ok (.iload_n 3, 1) := by decide +kernel
theorem zd_XPiece_covers_24 : decode zb_XPiece_covers 24 = .ok (.iload 4, 2) := by decide +kernel
theorem zd_XPiece_covers_26 : decode zb_XPiece_covers 26 = .ok (.invokevirtual 49, 3) := by decide +kernel
theorem zd_XPiece_covers_29 : decode zb_XPiece_covers 29 = .ok (.putfield 53, 3) := by decide +kernel
theorem zd_XPiece_covers_32 : decode zb_XPiece_covers 32 = .ok (.aload_n 0, 1) := by decide +kernel
theorem zd_XPiece_covers_33 : decode zb_XPiece_covers 33 = .ok (.getfield 53, 3) := by decide +kernel
theorem zd_XPiece_covers_36 : decode zb_XPiece_covers 36 = .ok (.lconst 0, 1) := by decide +kernel
theorem zd_XPiece_covers_37 : decode zb_XPiece_covers 37 = .ok (.lcmp, 1) := by decide +kernel
theorem zd_XPiece_covers_38 : decode zb_XPiece_covers 38 = .ok (.ifCond .lt 23, 3) := by decide +kernel
theorem zd_XPiece_covers_41 : decode zb_XPiece_covers 41 = .ok (.aload_n 0, 1) := by decide +kernel
theorem zd_XPiece_covers_42 : decode zb_XPiece_covers 42 = .ok (.getfield 53, 3) := by decide +kernel
theorem zd_XPiece_covers_45 : decode zb_XPiece_covers 45 = .ok (.lconst 0, 1) := by decide +kernel
theorem zd_XPiece_covers_46 : decode zb_XPiece_covers 46 = .ok (.lcmp, 1) := by decide +kernel
theorem zd_XPiece_covers_47 : decode zb_XPiece_covers 47 = .ok (.ifCond .ne 16, 3) := by decide +kernel
theorem zd_XPiece_covers_50 : decode zb_XPiece_covers 50 = .ok (.aload_n 0, 1) := by decide +kernel
theorem zd_XPiece_covers_51 : decode zb_XPiece_covers 51 = .ok (.bipush 6, 2) := by decide +kernel
theorem zd_XPiece_covers_53 : decode zb_XPiece_covers 53 = .ok (.bipush 12, 2) := by decide +kernel
theorem zd_XPiece_covers_55 : decode zb_XPiece_covers 55 = .ok (.invokevirtual 56, 3) := by decide +kernel
theorem zd_XPiece_covers_58 : decode zb_XPiece_covers 58 = .ok (.ifCond .ne 5, 3) := by decide +kernel
theorem zd_XPiece_covers_61 : decode zb_XPiece_covers 61 = .ok (.iconst 0, 1) := by decide +kernel
theorem zd_XPiece_covers_62 : decode zb_XPiece_covers 62 = .ok (.ireturn, 1) := by decide +kernel
theorem zd_XPiece_covers_63 : decode zb_XPiece_covers 63 = .ok (.aload_n 0, 1) := by decide +kernel
theorem zd_XPiece_covers_64 : decode zb_XPiece_covers 64 = .ok (.aload_n 0, 1) := by decide +kernel
theorem zd_XPiece_covers_65 : decode zb_XPiece_covers 65 = .ok (.bipush 12, 2) := by decide +kernel
theorem zd_XPiece_covers_67 : decode zb_XPiece_covers 67 = .ok (.iconst 0, 1) := by decide +kernel
theorem zd_XPiece_covers_68 : decode zb_XPiece_covers 68 = .ok (.iload_n 3, 1) := by decide +kernel
theorem zd_XPiece_covers_69 : decode zb_XPiece_covers 69 = .ok (.iload 4, 2) := by decide +kernel
theorem zd_XPiece_covers_71 : decode zb_XPiece_covers 71 = .ok (.invokevirtual 49, 3) := by decide +kernel
theorem zd_XPiece_covers_74 : decode zb_XPiece_covers 74 = .ok (.putfield 60, 3) := by decide +kernel
theorem zd_XPiece_covers_77 : decode zb_XPiece_covers 77 = .ok (.aload_n 0, 1) := by decide +kernel
theorem zd_XPiece_covers_78 : decode zb_XPiece_covers 78 = .ok (.getfield 60, 3) := by decide +kernel
theorem zd_XPiece_covers_81 : decode zb_XPiece_covers 81 = .ok (.lconst 0, 1) := by decide +kernel
theorem zd_XPiece_covers_82 : decode zb_XPiece_covers 82 = .ok (.lcmp, 1) := by decide +kernel
theorem zd_XPiece_covers_83 : decode zb_XPiece_covers 83 = .ok (.ifCond .lt 22, 3) := by decide +kernel
theorem zd_XPiece_covers_86 : decode zb_XPiece_covers 86 = .ok (.aload_n 0, 1) := by decide +kernel
theorem zd_XPiece_covers_87 : decode zb_XPiece_covers 87 = .ok (.getfield 60, 3) := by decide +kernel
theorem zd_XPiece_covers_90 : decode zb_XPiece_covers 90 = .ok (.lconst 0, 1) := by decide +kernel
theorem zd_XPiece_covers_91 : decode zb_XPiece_covers 91 = .ok (.lcmp, 1) := by decide +kernel
theorem zd_XPiece_covers_92 : decode zb_XPiece_covers 92 = .ok (.ifCond .ne 15, 3) := by decide +kernel
theorem zd_XPiece_covers_95 : decode zb_XPiece_covers 95 = .ok (.aload_n 0, 1) := by decide +kernel
theorem zd_XPiece_covers_96 : decode zb_XPiece_covers 96 = .ok (.bipush 12, 2) := by decide +kernel
theorem zd_XPiece_covers_98 : decode zb_XPiece_covers 98 = .ok (.iconst 0, 1) := by decide +kernel
theorem zd_XPiece_covers_99 : decode zb_XPiece_covers 99 = .ok (.invokevirtual 56, 3) := by decide +kernel
theorem zd_XPiece_covers_102 : decode zb_XPiece_covers 102 = .ok (.ifCond .ne 5, 3) := by decide +kernel
theorem zd_XPiece_covers_105 : decode zb_XPiece_covers 105 = .ok (.iconst 0, 1) := by decide +kernel
theorem zd_XPiece_covers_106 : decode zb_XPiece_covers 106 = .ok (.ireturn, 1) := by decide +kernel
theorem zd_XPiece_covers_107 : decode zb_XPiece_covers 107 = .ok (.aload_n 0, 1) := by decide +kernel
theorem zd_XPiece_covers_108 : decode zb_XPiece_covers 108 = .ok (.aload_n 0, 1) := by decide +kernel
theorem zd_XPiece_covers_109 : decode zb_XPiece_covers 109 = .ok (.iconst 0, 1) := by decide +kernel
theorem zd_XPiece_covers_110 : decode zb_XPiece_covers 110 = .ok (.bipush 6, 2) := by decide +kernel
theorem zd_XPiece_covers_112 : decode zb_XPiece_covers 112 = .ok (.iload_n 3, 1) := by decide +kernel
theorem zd_XPiece_covers_113 : decode zb_XPiece_covers 113 = .ok (.iload 4, 2) := by decide +kernel
theorem zd_XPiece_covers_115 : decode zb_XPiece_covers 115 = .ok (.invokevirtual 49, 3) := by decide +kernel
theorem zd_XPiece_covers_118 : decode zb_XPiece_covers 118 = .ok (.putfield 63, 3) := by decide +kernel
theorem zd_XPiece_covers_121 : decode zb_XPiece_covers 121 = .ok (.aload_n 0, 1) := by decide +kernel
theorem zd_XPiece_covers_122 : decode zb_XPiece_covers 122 = .ok (.getfield 63, 3) := by decide +kernel
theorem zd_XPiece_covers_125 : decode zb_XPiece_covers 125 = .ok (.lconst 0, 1) := by decide +kernel
theorem zd_XPiece_covers_126 : decode zb_XPiece_covers 126 = .ok (.lcmp, 1) := by decide +kernel
theorem zd_XPiece_covers_127 : decode zb_XPiece_covers 127 = .ok (.ifCond .lt 22, 3) := by decide +kernel
theorem zd_XPiece_covers_130 : decode zb_XPiece_covers 130 = .ok (.aload_n 0, 1) := by decide +kernel
theorem zd_XPiece_covers_131 : decode zb_XPiece_covers 131 = .ok (.getfield 63, 3) := by decide +kernel
theorem zd_XPiece_covers_134 : decode zb_XPiece_covers 134 = .ok (.lconst 0, 1) := by decide +kernel
theorem zd_XPiece_covers_135 : decode zb_XPiece_covers 135 = .ok (.lcmp, 1) := by decide +kernel
theorem zd_XPiece_covers_136 : decode zb_XPiece_covers 136 = .ok (.ifCond .ne 15, 3) := by decide +kernel
theorem zd_XPiece_covers_139 : decode zb_XPiece_covers 139 = .ok (.aload_n 0, 1) := by decide +kernel
theorem zd_XPiece_covers_140 : decode zb_XPiece_covers 140 = .ok (.iconst 0, 1) := by decide +kernel
theorem zd_XPiece_covers_141 : decode zb_XPiece_covers 141 = .ok (.bipush 6, 2) := by decide +kernel
theorem zd_XPiece_covers_143 : decode zb_XPiece_covers 143 = .ok (.invokevirtual 56, 3) := by decide +kernel
theorem zd_XPiece_covers_146 : decode zb_XPiece_covers 146 = .ok (.ifCond .ne 5, 3) := by decide +kernel
theorem zd_XPiece_covers_149 : decode zb_XPiece_covers 149 = .ok (.iconst 0, 1) := by decide +kernel
theorem zd_XPiece_covers_150 : decode zb_XPiece_covers 150 = .ok (.ireturn, 1) := by decide +kernel
theorem zd_XPiece_covers_151 : decode zb_XPiece_covers 151 = .ok (.aload_n 0, 1) := by decide +kernel
theorem zd_XPiece_covers_152 : decode zb_XPiece_covers 152 = .ok (.dup, 1) := by decide +kernel
theorem zd_XPiece_covers_153 : decode zb_XPiece_covers 153 = .ok (.getfield 53, 3) := by decide +kernel
theorem zd_XPiece_covers_156 : decode zb_XPiece_covers 156 = .ok (.aload_n 0, 1) := by decide +kernel
theorem zd_XPiece_covers_157 : decode zb_XPiece_covers 157 = .ok (.getfield 9, 3) := by decide +kernel
theorem zd_XPiece_covers_160 : decode zb_XPiece_covers 160 = .ok (.iconst 2, 1) := by decide +kernel
theorem zd_XPiece_covers_161 : decode zb_XPiece_covers 161 = .ok (.iaload, 1) := by decide +kernel
theorem zd_XPiece_covers_162 : decode zb_XPiece_covers 162 = .ok (.i2l, 1) := by decide +kernel
theorem zd_XPiece_covers_163 : decode zb_XPiece_covers 163 = .ok (.lmul, 1) := by decide +kernel
theorem zd_XPiece_covers_164 : decode zb_XPiece_covers 164 = .ok (.putfield 53, 3) := by decide +kernel
theorem zd_XPiece_covers_167 : decode zb_XPiece_covers 167 = .ok (.aload_n 0, 1) := by decide +kernel
theorem zd_XPiece_covers_168 : decode zb_XPiece_covers 168 = .ok (.dup, 1) := by decide +kernel
theorem zd_XPiece_covers_169 : decode zb_XPiece_covers 169 = .ok (.getfield 60, 3) := by decide +kernel
theorem zd_XPiece_covers_172 : decode zb_XPiece_covers 172 = .ok (.aload_n 0, 1) := by decide +kernel
theorem zd_XPiece_covers_173 : decode zb_XPiece_covers 173 = .ok (.getfield 9, 3) := by decide +kernel
theorem zd_XPiece_covers_176 : decode zb_XPiece_covers 176 = .ok (.bipush 8, 2) := by decide +kernel
theorem zd_XPiece_covers_178 : decode zb_XPiece_covers 178 = .ok (.iaload, 1) := by decide +kernel
theorem zd_XPiece_covers_179 : decode zb_XPiece_covers 179 = .ok (.i2l, 1) := by decide +kernel
theorem zd_XPiece_covers_180 : decode zb_XPiece_covers 180 = .ok (.lmul, 1) := by decide +kernel
theorem zd_XPiece_covers_181 : decode zb_XPiece_covers 181 = .ok (.putfield 60, 3) := by decide +kernel
theorem zd_XPiece_covers_184 : decode zb_XPiece_covers 184 = .ok (.aload_n 0, 1) := by decide +kernel
theorem zd_XPiece_covers_185 : decode zb_XPiece_covers 185 = .ok (.dup, 1) := by decide +kernel
theorem zd_XPiece_covers_186 : decode zb_XPiece_covers 186 = .ok (.getfield 63, 3) := by decide +kernel
theorem zd_XPiece_covers_189 : decode zb_XPiece_covers 189 = .ok (.aload_n 0, 1) := by decide +kernel
theorem zd_XPiece_covers_190 : decode zb_XPiece_covers 190 = .ok (.getfield 9, 3) := by decide +kernel
theorem zd_XPiece_covers_193 : decode zb_XPiece_covers 193 = .ok (.bipush 14, 2) := by decide +kernel
theorem zd_XPiece_covers_195 : decode zb_XPiece_covers 195 = .ok (.iaload, 1) := by decide +kernel
theorem zd_XPiece_covers_196 : decode zb_XPiece_covers 196 = .ok (.i2l, 1) := by decide +kernel
theorem zd_XPiece_covers_197 : decode zb_XPiece_covers 197 = .ok (.lmul, 1) := by decide +kernel
theorem zd_XPiece_covers_198 : decode zb_XPiece_covers 198 = .ok (.putfield 63, 3) := by decide +kernel
theorem zd_XPiece_covers_201 : decode zb_XPiece_covers 201 = .ok (.aload_n 0, 1) := by decide +kernel
theorem zd_XPiece_covers_202 : decode zb_XPiece_covers 202 = .ok (.aload_n 0, 1) := by decide +kernel
theorem zd_XPiece_covers_203 : decode zb_XPiece_covers 203 = .ok (.getfield 53, 3) := by decide +kernel
theorem zd_XPiece_covers_206 : decode zb_XPiece_covers 206 = .ok (.aload_n 0, 1) := by decide +kernel
theorem zd_XPiece_covers_207 : decode zb_XPiece_covers 207 = .ok (.getfield 60, 3) := by decide +kernel
theorem zd_XPiece_covers_210 : decode zb_XPiece_covers 210 = .ok (.ladd, 1) := by decide +kernel
theorem zd_XPiece_covers_211 : decode zb_XPiece_covers 211 = .ok (.aload_n 0, 1) := by decide +kernel
theorem zd_XPiece_covers_212 : decode zb_XPiece_covers 212 = .ok (.getfield 63, 3) := by decide +kernel
theorem zd_XPiece_covers_215 : decode zb_XPiece_covers 215 = .ok (.ladd, 1) := by decide +kernel
theorem zd_XPiece_covers_216 : decode zb_XPiece_covers 216 = .ok (.putfield 66, 3) := by decide +kernel
theorem zd_XPiece_covers_219 : decode zb_XPiece_covers 219 = .ok (.iconst 1, 1) := by decide +kernel
theorem zd_XPiece_covers_220 : decode zb_XPiece_covers 220 = .ok (.ireturn, 1) := by decide +kernel
theorem zw_821 : (Jvm.Cond.methodLink "OrreryBox$Piece" (49 : Nat) ({ cls := "OrreryBox$Piece", name := "edge", desc := "(IIII)J" } : Jvm.MethodName)) ∈ gw := gw_t 821 (by decide +kernel) rfl
theorem zw_823 : (Jvm.Cond.instanceMethod ({ cls := "OrreryBox$Piece", name := "edge", desc := "(IIII)J" } : Jvm.MethodName)) ∈ gw := gw_t 823 (by decide +kernel) rfl
theorem zv_19 : (Jvm.Cond.selects "OrreryBox$Piece" (⟨"OrreryBox$Piece", "edge", "(IIII)J"⟩ : MethodName) ⟨"OrreryBox$Piece", "edge", "(IIII)J"⟩) ∈ gw := gw_s 19 (by decide +kernel) rfl
theorem zs_XPiece_49 : zwV "OrreryBox$Piece" 49 "OrreryBox$Piece" zy_XPiece_edge zb_XPiece_edge 5 (some .long) := ⟨zw_821, zw_823, zv_19, zw_11, zc_XPiece_edge⟩
theorem zf_L_6_2 (b : Nat) (m : zMem) (k : Nat) (v : Int64) : (zfl b 6 m k).set 2 (.long v) = zfl b 6 (mL m k 2 v) k := by simp [zfl, mL, upd, vp_updL]
theorem zf_L_6_3 (b : Nat) (m : zMem) (k : Nat) (v : Int64) : (zfl b 6 m k).set 3 (.long v) = zfl b 6 (mL m k 3 v) k := by simp [zfl, mL, upd, vp_updL]
theorem zf_L_6_4 (b : Nat) (m : zMem) (k : Nat) (v : Int64) : (zfl b 6 m k).set 4 (.long v) = zfl b 6 (mL m k 4 v) k := by simp [zfl, mL, upd, vp_updL]
theorem zf_L_6_5 (b : Nat) (m : zMem) (k : Nat) (v : Int64) : (zfl b 6 m k).set 5 (.long v) = zfl b 6 (mL m k 5 v) k := by simp [zfl, mL, upd, vp_updL]
theorem zw_825 : (Jvm.Cond.methodLink "OrreryBox$Piece" (56 : Nat) ({ cls := "OrreryBox$Piece", name := "ownsEdge", desc := "(II)Z" } : Jvm.MethodName)) ∈ gw := gw_t 825 (by decide +kernel) rfl
theorem zw_827 : (Jvm.Cond.instanceMethod ({ cls := "OrreryBox$Piece", name := "ownsEdge", desc := "(II)Z" } : Jvm.MethodName)) ∈ gw := gw_t 827 (by decide +kernel) rfl
theorem zv_20 : (Jvm.Cond.selects "OrreryBox$Piece" (⟨"OrreryBox$Piece", "ownsEdge", "(II)Z"⟩ : MethodName) ⟨"OrreryBox$Piece", "ownsEdge", "(II)Z"⟩) ∈ gw := gw_s 20 (by decide +kernel) rfl
theorem zs_XPiece_56 : zwV "OrreryBox$Piece" 56 "OrreryBox$Piece" zy_XPiece_ownsEdge zb_XPiece_ownsEdge 3 (some .boolean) := ⟨zw_825, zw_827, zv_20, zw_11, zc_XPiece_ownsEdge⟩
def F_XPiece_covers (sh : zSh) (mm : zMem) (o : Nat) (x0_ : Int32) (x1_ : Int32) : Option (Int32 × zMem) := zoL ((16 * x0_) + 8) (fun x1 => zoL ((16 * x1_) + 8) (fun x2 => zoS (sh o) 6 (fun le4 => Option.bind (F_XPiece_edge sh mm o 6 12 x1 x2) (fun p5 => zoS (sh o) 6 (fun le7 => zoL (mL (p5.2) o 2 (p5.1)) (fun mm8 => zoS (sh o) 6 (fun le10 => (if (lg_cmp (mm8.2.1 o 2) 0) < 0 then some (0, mm8) else zoS (sh o) 6 (fun le13 => (if (lg_cmp (mm8.2.1 o 2) 0) = 0 then zoS (sh o) 6 (fun le248 => Option.bind (F_XPiece_ownsEdge sh mm8 o 6 12) (fun p249 => (if p249.1 = 0 then some (0, p249.2) else zoS (sh o) 6 (fun le252 => Option.bind (F_XPiece_edge sh (p249.2) o 12 0 x1 x2) (fun p253 => zoS (sh o) 6 (fun le255 => zoL (mL (p253.2) o 3 (p253.1)) (fun mm256 => zoS (sh o) 6 (fun le258 => (if (lg_cmp (mm256.2.1 o 3) 0) < 0 then some (0, mm256) else zoS (sh o) 6 (fun le261 => (if (lg_cmp (mm256.2.1 o 3) 0) = 0 then zoS (sh o) 6 (fun le372 => Option.bind (F_XPiece_ownsEdge sh mm256 o 12 0) (fun p373 => (if p373.1 = 0 then some (0, p373.2) else zoS (sh o) 6 (fun le376 => Option.bind (F_XPiece_edge sh (p373.2) o 0 6 x1 x2) (fun p377 => zoS (sh o) 6 (fun le379 => zoL (mL (p377.2) o 4 (p377.1)) (fun mm380 => zoS (sh o) 6 (fun le382 => (if (lg_cmp (mm380.2.1 o 4) 0) < 0 then some (0, mm380) else zoS (sh o) 6 (fun le385 => (if (lg_cmp (mm380.2.1 o 4) 0) = 0 then zoS (sh o) 6 (fun le434 => Option.bind (F_XPiece_ownsEdge sh mm380 o 0 6) (fun p435 => (if p435.1 = 0 then some (0, p435.2) else zoS (sh o) 6 (fun le438 => zoS (sh o) 6 (fun le440 => Option.bind ((p435.2).2.2 o 1) (fun a441 => zoS (sh a441) 100 (fun le443 => if (2 : Int32) < 0 ∨ le443 ≤ (2 : Int32).toNatClampNeg then none else zoL (((p435.2).2.1 o 2) * ((((p435.2).1 a441 (2 : Int32).toNatClampNeg) : Int32).toInt64)) (fun x445 => zoS (sh o) 6 (fun le447 => zoL (mL (p435.2) o 2 x445) (fun mm448 => zoS (sh o) 6 (fun le450 => zoS (sh o) 6 (fun le452 => Option.bind (mm448.2.2 o 1) (fun a453 => zoS (sh a453) 100 (fun le455 => if (8 : Int32) < 0 ∨ le455 ≤ (8 : Int32).toNatClampNeg then none else zoL ((mm448.2.1 o 3) * (((mm448.1 a453 (8 : Int32).toNatClampNeg) : Int32).toInt64)) (fun x457 => zoS (sh o) 6 (fun le459 => zoL (mL mm448 o 3 x457) (fun mm460 => zoS (sh o) 6 (fun le462 => zoS (sh o) 6 (fun le464 => Option.bind (mm460.2.2 o 1) (fun a465 => zoS (sh a465) 100 (fun le467 => if (14 : Int32) < 0 ∨ le467 ≤ (14 : Int32).toNatClampNeg then none else zoL ((mm460.2.1 o 4) * (((mm460.1 a465 (14 : Int32).toNatClampNeg) : Int32).toInt64)) (fun x469 => zoS (sh o) 6 (fun le471 => zoL (mL mm460 o 4 x469) (fun mm472 => zoS (sh o) 6 (fun le474 => zoS (sh o) 6 (fun le476 => zoS (sh o) 6 (fun le478 => zoL (((mm472.2.1 o 2) + (mm472.2.1 o 3)) + (mm472.2.1 o 4)) (fun x479 => zoS (sh o) 6 (fun le481 => zoL (mL mm472 o 5 x479) (fun mm482 => some (1, mm482))))))))))))))))))))))))))))))) else zoS (sh o) 6 (fun le388 => zoS (sh o) 6 (fun le390 => Option.bind (mm380.2.2 o 1) (fun a391 => zoS (sh a391) 100 (fun le393 => if (2 : Int32) < 0 ∨ le393 ≤ (2 : Int32).toNatClampNeg then none else zoL ((mm380.2.1 o 2) * (((mm380.1 a391 (2 : Int32).toNatClampNeg) : Int32).toInt64)) (fun x395 => zoS (sh o) 6 (fun le397 => zoL (mL mm380 o 2 x395) (fun mm398 => zoS (sh o) 6 (fun le400 => zoS (sh o) 6 (fun le402 => Option.bind (mm398.2.2 o 1) (fun a403 => zoS (sh a403) 100 (fun le405 => if (8 : Int32) < 0 ∨ le405 ≤ (8 : Int32).toNatClampNeg then none else zoL ((mm398.2.1 o 3) * (((mm398.1 a403 (8 : Int32).toNatClampNeg) : Int32).toInt64)) (fun x407 => zoS (sh o) 6 (fun le409 => zoL (mL mm398 o 3 x407) (fun mm410 => zoS (sh o) 6 (fun le412 => zoS (sh o) 6 (fun le414 => Option.bind (mm410.2.2 o 1) (fun a415 => zoS (sh a415) 100 (fun le417 => if (14 : Int32) < 0 ∨ le417 ≤ (14 : Int32).toNatClampNeg then none else zoL ((mm410.2.1 o 4) * (((mm410.1 a415 (14 : Int32).toNatClampNeg) : Int32).toInt64)) (fun x419 => zoS (sh o) 6 (fun le421 => zoL (mL mm410 o 4 x419) (fun mm422 => zoS (sh o) 6 (fun le424 => zoS (sh o) 6 (fun le426 => zoS (sh o) 6 (fun le428 => zoL (((mm422.2.1 o 2) + (mm422.2.1 o 3)) + (mm422.2.1 o 4)) (fun x429 => zoS (sh o) 6 (fun le431 => zoL (mL mm422 o 5 x429) (fun mm432 => some (1, mm432))))))))))))))))))))))))))))))))))))))) else zoS (sh o) 6 (fun le264 => Option.bind (F_XPiece_edge sh mm256 o 0 6 x1 x2) (fun p265 => zoS (sh o) 6 (fun le267 => zoL (mL (p265.2) o 4 (p265.1)) (fun mm268 => zoS (sh o) 6 (fun le270 => (if (lg_cmp (mm268.2.1 o 4) 0) < 0 then some (0, mm268) else zoS (sh o) 6 (fun le273 => (if (lg_cmp (mm268.2.1 o 4) 0) = 0 then zoS (sh o) 6 (fun le322 => Option.bind (F_XPiece_ownsEdge sh mm268 o 0 6) (fun p323 => (if p323.1 = 0 then some (0, p323.2) else zoS (sh o) 6 (fun le326 => zoS (sh o) 6 (fun le328 => Option.bind ((p323.2).2.2 o 1) (fun a329 => zoS (sh a329) 100 (fun le331 => if (2 : Int32) < 0 ∨ le331 ≤ (2 : Int32).toNatClampNeg then none else zoL (((p323.2).2.1 o 2) * ((((p323.2).1 a329 (2 : Int32).toNatClampNeg) : Int32).toInt64)) (fun x333 => zoS (sh o) 6 (fun le335 => zoL (mL (p323.2) o 2 x333) (fun mm336 => zoS (sh o) 6 (fun le338 => zoS (sh o) 6 (fun le340 => Option.bind (mm336.2.2 o 1) (fun a341 => zoS (sh a341) 100 (fun le343 => if (8 : Int32) < 0 ∨ le343 ≤ (8 : Int32).toNatClampNeg then none else zoL ((mm336.2.1 o 3) * (((mm336.1 a341 (8 : Int32).toNatClampNeg) : Int32).toInt64)) (fun x345 => zoS (sh o) 6 (fun le347 => zoL (mL mm336 o 3 x345) (fun mm348 => zoS (sh o) 6 (fun le350 => zoS (sh o) 6 (fun le352 => Option.bind (mm348.2.2 o 1) (fun a353 => zoS (sh a353) 100 (fun le355 => if (14 : Int32) < 0 ∨ le355 ≤ (14 : Int32).toNatClampNeg then none else zoL ((mm348.2.1 o 4) * (((mm348.1 a353 (14 : Int32).toNatClampNeg) : Int32).toInt64)) (fun x357 => zoS (sh o) 6 (fun le359 => zoL (mL mm348 o 4 x357) (fun mm360 => zoS (sh o) 6 (fun le362 => zoS (sh o) 6 (fun le364 => zoS (sh o) 6 (fun le366 => zoL (((mm360.2.1 o 2) + (mm360.2.1 o 3)) + (mm360.2.1 o 4)) (fun x367 => zoS (sh o) 6 (fun le369 => zoL (mL mm360 o 5 x367) (fun mm370 => some (1, mm370))))))))))))))))))))))))))))))) else zoS (sh o) 6 (fun le276 => zoS (sh o) 6 (fun le278 => Option.bind (mm268.2.2 o 1) (fun a279 => zoS (sh a279) 100 (fun le281 => if (2 : Int32) < 0 ∨ le281 ≤ (2 : Int32).toNatClampNeg then none else zoL ((mm268.2.1 o 2) * (((mm268.1 a279 (2 : Int32).toNatClampNeg) : Int32).toInt64)) (fun x283 => zoS (sh o) 6 (fun le285 => zoL (mL mm268 o 2 x283) (fun mm286 => zoS (sh o) 6 (fun le288 => zoS (sh o) 6 (fun le290 => Option.bind (mm286.2.2 o 1) (fun a291 => zoS (sh a291) 100 (fun le293 => if (8 : Int32) < 0 ∨ le293 ≤ (8 : Int32).toNatClampNeg then none else zoL ((mm286.2.1 o 3) * (((mm286.1 a291 (8 : Int32).toNatClampNeg) : Int32).toInt64)) (fun x295 => zoS (sh o) 6 (fun le297 => zoL (mL mm286 o 3 x295) (fun mm298 => zoS (sh o) 6 (fun le300 => zoS (sh o) 6 (fun le302 => Option.bind (mm298.2.2 o 1) (fun a303 => zoS (sh a303) 100 (fun le305 => if (14 : Int32) < 0 ∨ le305 ≤ (14 : Int32).toNatClampNeg then none else zoL ((mm298.2.1 o 4) * (((mm298.1 a303 (14 : Int32).toNatClampNeg) : Int32).toInt64)) (fun x307 => zoS (sh o) 6 (fun le309 => zoL (mL mm298 o 4 x307) (fun mm310 => zoS (sh o) 6 (fun le312 => zoS (sh o) 6 (fun le314 => zoS (sh o) 6 (fun le316 => zoL (((mm310.2.1 o 2) + (mm310.2.1 o 3)) + (mm310.2.1 o 4)) (fun x317 => zoS (sh o) 6 (fun le319 => zoL (mL mm310 o 5 x317) (fun mm320 => some (1, mm320))))))))))))))))))))))))))))))))))))))))))))))) else zoS (sh o) 6 (fun le16 => Option.bind (F_XPiece_edge sh mm8 o 12 0 x1 x2) (fun p17 => zoS (sh o) 6 (fun le19 => zoL (mL (p17.2) o 3 (p17.1)) (fun mm20 => zoS (sh o) 6 (fun le22 => (if (lg_cmp (mm20.2.1 o 3) 0) < 0 then some (0, mm20) else zoS (sh o) 6 (fun le25 => (if (lg_cmp (mm20.2.1 o 3) 0) = 0 then zoS (sh o) 6 (fun le136 => Option.bind (F_XPiece_ownsEdge sh mm20 o 12 0) (fun p137 => (if p137.1 = 0 then some (0, p137.2) else zoS (sh o) 6 (fun le140 => Option.bind (F_XPiece_edge sh (p137.2) o 0 6 x1 x2) (fun p141 => zoS (sh o) 6 (fun le143 => zoL (mL (p141.2) o 4 (p141.1)) (fun mm144 => zoS (sh o) 6 (fun le146 => (if (lg_cmp (mm144.2.1 o 4) 0) < 0 then some (0, mm144) else zoS (sh o) 6 (fun le149 => (if (lg_cmp (mm144.2.1 o 4) 0) = 0 then zoS (sh o) 6 (fun le198 => Option.bind (F_XPiece_ownsEdge sh mm144 o 0 6) (fun p199 => (if p199.1 = 0 then some (0, p199.2) else zoS (sh o) 6 (fun le202 => zoS (sh o) 6 (fun le204 => Option.bind ((p199.2).2.2 o 1) (fun a205 => zoS (sh a205) 100 (fun le207 => if (2 : Int32) < 0 ∨ le207 ≤ (2 : Int32).toNatClampNeg then none else zoL (((p199.2).2.1 o 2) * ((((p199.2).1 a205 (2 : Int32).toNatClampNeg) : Int32).toInt64)) (fun x209 => zoS (sh o) 6 (fun le211 => zoL (mL (p199.2) o 2 x209) (fun mm212 => zoS (sh o) 6 (fun le214 => zoS (sh o) 6 (fun le216 => Option.bind (mm212.2.2 o 1) (fun a217 => zoS (sh a217) 100 (fun le219 => if (8 : Int32) < 0 ∨ le219 ≤ (8 : Int32).toNatClampNeg then none else zoL ((mm212.2.1 o 3) * (((mm212.1 a217 (8 : Int32).toNatClampNeg) : Int32).toInt64)) (fun x221 => zoS (sh o) 6 (fun le223 => zoL (mL mm212 o 3 x221) (fun mm224 => zoS (sh o) 6 (fun le226 => zoS (sh o) 6 (fun le228 => Option.bind (mm224.2.2 o 1) (fun a229 => zoS (sh a229) 100 (fun le231 => if (14 : Int32) < 0 ∨ le231 ≤ (14 : Int32).toNatClampNeg then none else zoL ((mm224.2.1 o 4) * (((mm224.1 a229 (14 : Int32).toNatClampNeg) : Int32).toInt64)) (fun x233 => zoS (sh o) 6 (fun le235 => zoL (mL mm224 o 4 x233) (fun mm236 => zoS (sh o) 6 (fun le238 => zoS (sh o) 6 (fun le240 => zoS (sh o) 6 (fun le242 => zoL (((mm236.2.1 o 2) + (mm236.2.1 o 3)) + (mm236.2.1 o 4)) (fun x243 => zoS (sh o) 6 (fun le245 => zoL (mL mm236 o 5 x243) (fun mm246 => some (1, mm246))))))))))))))))))))))))))))))) else zoS (sh o) 6 (fun le152 => zoS (sh o) 6 (fun le154 => Option.bind (mm144.2.2 o 1) (fun a155 => zoS (sh a155) 100 (fun le157 => if (2 : Int32) < 0 ∨ le157 ≤ (2 : Int32).toNatClampNeg then none else zoL ((mm144.2.1 o 2) * (((mm144.1 a155 (2 : Int32).toNatClampNeg) : Int32).toInt64)) (fun x159 => zoS (sh o) 6 (fun le161 => zoL (mL mm144 o 2 x159) (fun mm162 => zoS (sh o) 6 (fun le164 => zoS (sh o) 6 (fun le166 => Option.bind (mm162.2.2 o 1) (fun a167 => zoS (sh a167) 100 (fun le169 => if (8 : Int32) < 0 ∨ le169 ≤ (8 : Int32).toNatClampNeg then none else zoL ((mm162.2.1 o 3) * (((mm162.1 a167 (8 : Int32).toNatClampNeg) : Int32).toInt64)) (fun x171 => zoS (sh o) 6 (fun le173 => zoL (mL mm162 o 3 x171) (fun mm174 => zoS (sh o) 6 (fun le176 => zoS (sh o) 6 (fun le178 => Option.bind (mm174.2.2 o 1) (fun a179 => zoS (sh a179) 100 (fun le181 => if (14 : Int32) < 0 ∨ le181 ≤ (14 : Int32).toNatClampNeg then none else zoL ((mm174.2.1 o 4) * (((mm174.1 a179 (14 : Int32).toNatClampNeg) : Int32).toInt64)) (fun x183 => zoS (sh o) 6 (fun le185 => zoL (mL mm174 o 4 x183) (fun mm186 => zoS (sh o) 6 (fun le188 => zoS (sh o) 6 (fun le190 => zoS (sh o) 6 (fun le192 => zoL (((mm186.2.1 o 2) + (mm186.2.1 o 3)) + (mm186.2.1 o 4)) (fun x193 => zoS (sh o) 6 (fun le195 => zoL (mL mm186 o 5 x193) (fun mm196 => some (1, mm196))))))))))))))))))))))))))))))))))))))) else zoS (sh o) 6 (fun le28 => Option.bind (F_XPiece_edge sh mm20 o 0 6 x1 x2) (fun p29 => zoS (sh o) 6 (fun le31 => zoL (mL (p29.2) o 4 (p29.1)) (fun mm32 => zoS (sh o) 6 (fun le34 => (if (lg_cmp (mm32.2.1 o 4) 0) < 0 then some (0, mm32) else zoS (sh o) 6 (fun le37 => (if (lg_cmp (mm32.2.1 o 4) 0) = 0 then zoS (sh o) 6 (fun le86 => Option.bind (F_XPiece_ownsEdge sh mm32 o 0 6) (fun p87 => (if p87.1 = 0 then some (0, p87.2) else zoS (sh o) 6 (fun le90 => zoS (sh o) 6 (fun le92 => Option.bind ((p87.2).2.2 o 1) (fun a93 => zoS (sh a93) 100 (fun le95 => if (2 : Int32) < 0 ∨ le95 ≤ (2 : Int32).toNatClampNeg then none else zoL (((p87.2).2.1 o 2) * ((((p87.2).1 a93 (2 : Int32).toNatClampNeg) : Int32).toInt64)) (fun x97 => zoS (sh o) 6 (fun le99 => zoL (mL (p87.2) o 2 x97) (fun mm100 => zoS (sh o) 6 (fun le102 => zoS (sh o) 6 (fun le104 => Option.bind (mm100.2.2 o 1) (fun a105 => zoS (sh a105) 100 (fun le107 => if (8 : Int32) < 0 ∨ le107 ≤ (8 : Int32).toNatClampNeg then none else zoL ((mm100.2.1 o 3) * (((mm100.1 a105 (8 : Int32).toNatClampNeg) : Int32).toInt64)) (fun x109 => zoS (sh o) 6 (fun le111 => zoL (mL mm100 o 3 x109) (fun mm112 => zoS (sh o) 6 (fun le114 => zoS (sh o) 6 (fun le116 => Option.bind (mm112.2.2 o 1) (fun a117 => zoS (sh a117) 100 (fun le119 => if (14 : Int32) < 0 ∨ le119 ≤ (14 : Int32).toNatClampNeg then none else zoL ((mm112.2.1 o 4) * (((mm112.1 a117 (14 : Int32).toNatClampNeg) : Int32).toInt64)) (fun x121 => zoS (sh o) 6 (fun le123 => zoL (mL mm112 o 4 x121) (fun mm124 => zoS (sh o) 6 (fun le126 => zoS (sh o) 6 (fun le128 => zoS (sh o) 6 (fun le130 => zoL (((mm124.2.1 o 2) + (mm124.2.1 o 3)) + (mm124.2.1 o 4)) (fun x131 => zoS (sh o) 6 (fun le133 => zoL (mL mm124 o 5 x131) (fun mm134 => some (1, mm134))))))))))))))))))))))))))))))) else zoS (sh o) 6 (fun le40 => zoS (sh o) 6 (fun le42 => Option.bind (mm32.2.2 o 1) (fun a43 => zoS (sh a43) 100 (fun le45 => if (2 : Int32) < 0 ∨ le45 ≤ (2 : Int32).toNatClampNeg then none else zoL ((mm32.2.1 o 2) * (((mm32.1 a43 (2 : Int32).toNatClampNeg) : Int32).toInt64)) (fun x47 => zoS (sh o) 6 (fun le49 => zoL (mL mm32 o 2 x47) (fun mm50 => zoS (sh o) 6 (fun le52 => zoS (sh o) 6 (fun le54 => Option.bind (mm50.2.2 o 1) (fun a55 => zoS (sh a55) 100 (fun le57 => if (8 : Int32) < 0 ∨ le57 ≤ (8 : Int32).toNatClampNeg then none else zoL ((mm50.2.1 o 3) * (((mm50.1 a55 (8 : Int32).toNatClampNeg) : Int32).toInt64)) (fun x59 => zoS (sh o) 6 (fun le61 => zoL (mL mm50 o 3 x59) (fun mm62 => zoS (sh o) 6 (fun le64 => zoS (sh o) 6 (fun le66 => Option.bind (mm62.2.2 o 1) (fun a67 => zoS (sh a67) 100 (fun le69 => if (14 : Int32) < 0 ∨ le69 ≤ (14 : Int32).toNatClampNeg then none else zoL ((mm62.2.1 o 4) * (((mm62.1 a67 (14 : Int32).toNatClampNeg) : Int32).toInt64)) (fun x71 => zoS (sh o) 6 (fun le73 => zoL (mL mm62 o 4 x71) (fun mm74 => zoS (sh o) 6 (fun le76 => zoS (sh o) 6 (fun le78 => zoS (sh o) 6 (fun le80 => zoL (((mm74.2.1 o 2) + (mm74.2.1 o 3)) + (mm74.2.1 o 4)) (fun x81 => zoS (sh o) 6 (fun le83 => zoL (mL mm74 o 5 x81) (fun mm84 => some (1, mm84))))))))))))))))))))))))))))))))))))))))))))))))))))))
set_option maxHeartbeats 4000000 in
set_option maxRecDepth 100000 in
theorem k_XPiece_covers (l : Launch) (D : va_G) (tA : Nat → ClassId) (b : Nat) (sh : zSh) (n : Nat) {mm : zMem} {o : Nat} {x0_ : Int32} {x1_ : Int32} {r : (Int32 × zMem)} (h : F_XPiece_covers sh mm o x0_ x1_ = some r) : zM l D tA b zy_XPiece_covers zb_XPiece_covers 5 (some .boolean) 1 24 0 0 [.ref (b + o), .int x0_, .int x1_] (zW tA b sh mm) n (zE (some (.int (r.1))) (zW tA b sh r.2) n) := by
  unfold F_XPiece_covers at h
  refine zM_of (own := "OrreryBox$Piece") (plainFor_of_name (by decide)) rfl (Nat.le_of_ble_eq_true rfl) (fun p e s m below meth c F hr hin hH => ?_)
  refine zr_bipushv (v := 16) F zd_XPiece_covers_0 (by decide) ?_
  refine zr_iload_n F zd_XPiece_covers_2 rfl ?_
  refine zr_imul F zd_XPiece_covers_3 ?_
  refine zr_bipushv (v := 8) F zd_XPiece_covers_4 (by decide) ?_
  refine zr_iadd F zd_XPiece_covers_6 ?_
  obtain ⟨x1, ex1, h⟩ := zoL_s h
  rw [← ex1]
  refine zr_istore_n F zd_XPiece_covers_7 (by decide) ?_
  refine zr_bipushv (v := 16) F zd_XPiece_covers_8 (by decide) ?_
  refine zr_pcn 10 rfl ?_
  refine zr_iload_n F zd_XPiece_covers_10 rfl ?_
  refine zr_imul F zd_XPiece_covers_11 ?_
  refine zr_bipushv (v := 8) F zd_XPiece_covers_12 (by decide) ?_
  refine zr_iadd F zd_XPiece_covers_14 ?_
  obtain ⟨x2, ex2, h⟩ := zoL_s h
  rw [← ex2]
  refine zr_istore F zd_XPiece_covers_15 (by decide) ?_
  refine zr_aload_n F zd_XPiece_covers_17 rfl ?_
  refine zr_aload_n F zd_XPiece_covers_18 rfl ?_
  refine zr_bipushv (v := 6) F zd_XPiece_covers_19 (by decide) ?_
  refine zr_pcn 21 rfl ?_
  refine zr_bipushv (v := 12) F zd_XPiece_covers_21 (by decide) ?_
  refine zr_iload_n F zd_XPiece_covers_23 rfl ?_
  refine zr_iload F zd_XPiece_covers_24 rfl ?_
  obtain ⟨le4, hs3, h⟩ := zoS_s h
  obtain ⟨p5, ep5, h⟩ := zoB_s h
  refine zr_callV1 F (k_XPiece_edge l D tA b sh _ ep5) zd_XPiece_covers_26 (zW_o hs3 (by decide)) rfl zs_XPiece_49 rfl zq_XPiece_edge rfl rfl ⟨(Nat.le_of_ble_eq_true rfl), (Nat.le_of_ble_eq_true rfl)⟩ (Nat.le_of_ble_eq_true rfl) ⟨(Nat.le_of_ble_eq_true rfl), (Nat.le_of_ble_eq_true rfl)⟩ ?_
  obtain ⟨le7, hs6, h⟩ := zoS_s h
  refine zr_put F 6 2 zd_XPiece_covers_29 (zW_o hs6 (by decide)) rfl (by decide) zw_352 rfl rfl rfl rfl (by exact (Nat.le_of_ble_eq_true rfl)) ?_
  obtain ⟨mm8, emm8, h⟩ := zoL_s h
  refine zr_norm (zW tA b sh mm8) _ (by rw [emm8]; exact zW_pL (v := (p5.1)) hs6 (by decide) (zf_L_6_2 b _ _ _)) rfl ?_
  refine zr_aload_n F zd_XPiece_covers_32 rfl ?_
  obtain ⟨le10, hs9, h⟩ := zoS_s h
  refine zr_get F 6 2 zd_XPiece_covers_33 (zW_o hs9 (by decide)) rfl (by decide) zw_352 rfl (by rfl) ?_
  refine zr_lconstv (v := 0) F zd_XPiece_covers_36 (by decide) ?_
  refine zr_pcn 37 rfl ?_
  refine zr_lcmp F zd_XPiece_covers_37 ?_
  refine zr_if_lt F 61 zd_XPiece_covers_38 (by decide) (fun hb11 => ?_) (fun hb11 => ?_)
  ·
    rw [if_pos hb11] at h
    refine zr_iconstv (v := 0) F zd_XPiece_covers_61 (by decide) ?_
    obtain rfl := Option.some.inj h
    exact zr_zret F hr rfl zd_XPiece_covers_62 (Nat.le_of_ble_eq_true rfl) (Nat.le_of_ble_eq_true rfl) ⟨rfl, rfl, rfl⟩
  ·
    rw [if_neg hb11] at h
    refine zr_aload_n F zd_XPiece_covers_41 rfl ?_
    obtain ⟨le13, hs12, h⟩ := zoS_s h
    refine zr_get F 6 2 zd_XPiece_covers_42 (zW_o hs12 (by decide)) rfl (by decide) zw_352 rfl (by rfl) ?_
    refine zr_lconstv (v := 0) F zd_XPiece_covers_45 (by decide) ?_
    refine zr_lcmp F zd_XPiece_covers_46 ?_
    refine zr_pcn 47 rfl ?_
    refine zr_if_ne F 63 zd_XPiece_covers_47 (by decide) (fun hb14 => ?_) (fun hb14 => ?_)
    ·
      rw [if_neg hb14] at h
      refine zr_aload_n F zd_XPiece_covers_63 rfl ?_
      refine zr_aload_n F zd_XPiece_covers_64 rfl ?_
      refine zr_bipushv (v := 12) F zd_XPiece_covers_65 (by decide) ?_
      refine zr_iconstv (v := 0) F zd_XPiece_covers_67 (by decide) ?_
      refine zr_iload_n F zd_XPiece_covers_68 rfl ?_
      refine zr_iload F zd_XPiece_covers_69 rfl ?_
      obtain ⟨le16, hs15, h⟩ := zoS_s h
      obtain ⟨p17, ep17, h⟩ := zoB_s h
      refine zr_callV1 F (k_XPiece_edge l D tA b sh _ ep17) zd_XPiece_covers_71 (zW_o hs15 (by decide)) rfl zs_XPiece_49 rfl zq_XPiece_edge rfl rfl ⟨(Nat.le_of_ble_eq_true rfl), (Nat.le_of_ble_eq_true rfl)⟩ (Nat.le_of_ble_eq_true rfl) ⟨(Nat.le_of_ble_eq_true rfl), (Nat.le_of_ble_eq_true rfl)⟩ ?_
      refine zr_pcn 74 rfl ?_
      obtain ⟨le19, hs18, h⟩ := zoS_s h
      refine zr_put F 6 3 zd_XPiece_covers_74 (zW_o hs18 (by decide)) rfl (by decide) zw_353 rfl rfl rfl rfl (by exact (Nat.le_of_ble_eq_true rfl)) ?_
      obtain ⟨mm20, emm20, h⟩ := zoL_s h
      refine zr_norm (zW tA b sh mm20) _ (by rw [emm20]; exact zW_pL (v := (p17.1)) hs18 (by decide) (zf_L_6_3 b _ _ _)) rfl ?_
      refine zr_aload_n F zd_XPiece_covers_77 rfl ?_
      obtain ⟨le22, hs21, h⟩ := zoS_s h
      refine zr_get F 6 3 zd_XPiece_covers_78 (zW_o hs21 (by decide)) rfl (by decide) zw_353 rfl (by rfl) ?_
      refine zr_lconstv (v := 0) F zd_XPiece_covers_81 (by decide) ?_
      refine zr_lcmp F zd_XPiece_covers_82 ?_
      refine zr_if_lt F 105 zd_XPiece_covers_83 (by decide) (fun hb23 => ?_) (fun hb23 => ?_)
      ·
        rw [if_pos hb23] at h
        refine zr_iconstv (v := 0) F zd_XPiece_covers_105 (by decide) ?_
        obtain rfl := Option.some.inj h
        exact zr_zret F hr rfl zd_XPiece_covers_106 (Nat.le_of_ble_eq_true rfl) (Nat.le_of_ble_eq_true rfl) ⟨rfl, rfl, rfl⟩
      ·
        rw [if_neg hb23] at h
        refine zr_pcn 86 rfl ?_
        refine zr_aload_n F zd_XPiece_covers_86 rfl ?_
        obtain ⟨le25, hs24, h⟩ := zoS_s h
        refine zr_get F 6 3 zd_XPiece_covers_87 (zW_o hs24 (by decide)) rfl (by decide) zw_353 rfl (by rfl) ?_
        refine zr_lconstv (v := 0) F zd_XPiece_covers_90 (by decide) ?_
        refine zr_lcmp F zd_XPiece_covers_91 ?_
        refine zr_if_ne F 107 zd_XPiece_covers_92 (by decide) (fun hb26 => ?_) (fun hb26 => ?_)
        ·
          rw [if_neg hb26] at h
          refine zr_aload_n F zd_XPiece_covers_107 rfl ?_
          refine zr_aload_n F zd_XPiece_covers_108 rfl ?_
          refine zr_iconstv (v := 0) F zd_XPiece_covers_109 (by decide) ?_
          refine zr_pcn 110 rfl ?_
          refine zr_bipushv (v := 6) F zd_XPiece_covers_110 (by decide) ?_
          refine zr_iload_n F zd_XPiece_covers_112 rfl ?_
          refine zr_iload F zd_XPiece_covers_113 rfl ?_
          obtain ⟨le28, hs27, h⟩ := zoS_s h
          obtain ⟨p29, ep29, h⟩ := zoB_s h
          refine zr_callV1 F (k_XPiece_edge l D tA b sh _ ep29) zd_XPiece_covers_115 (zW_o hs27 (by decide)) rfl zs_XPiece_49 rfl zq_XPiece_edge rfl rfl ⟨(Nat.le_of_ble_eq_true rfl), (Nat.le_of_ble_eq_true rfl)⟩ (Nat.le_of_ble_eq_true rfl) ⟨(Nat.le_of_ble_eq_true rfl), (Nat.le_of_ble_eq_true rfl)⟩ ?_
          obtain ⟨le31, hs30, h⟩ := zoS_s h
          refine zr_put F 6 4 zd_XPiece_covers_118 (zW_o hs30 (by decide)) rfl (by decide) zw_354 rfl rfl rfl rfl (by exact (Nat.le_of_ble_eq_true rfl)) ?_
          obtain ⟨mm32, emm32, h⟩ := zoL_s h
          refine zr_norm (zW tA b sh mm32) _ (by rw [emm32]; exact zW_pL (v := (p29.1)) hs30 (by decide) (zf_L_6_4 b _ _ _)) rfl ?_
          refine zr_aload_n F zd_XPiece_covers_121 rfl ?_
          obtain ⟨le34, hs33, h⟩ := zoS_s h
          refine zr_get F 6 4 zd_XPiece_covers_122 (zW_o hs33 (by decide)) rfl (by decide) zw_354 rfl (by rfl) ?_
          refine zr_lconstv (v := 0) F zd_XPiece_covers_125 (by decide) ?_
          refine zr_pcn 126 rfl ?_
          refine zr_lcmp F zd_XPiece_covers_126 ?_
          refine zr_if_lt F 149 zd_XPiece_covers_127 (by decide) (fun hb35 => ?_) (fun hb35 => ?_)
          ·
            rw [if_pos hb35] at h
            refine zr_iconstv (v := 0) F zd_XPiece_covers_149 (by decide) ?_
            obtain rfl := Option.some.inj h
            exact zr_zret F hr rfl zd_XPiece_covers_150 (Nat.le_of_ble_eq_true rfl) (Nat.le_of_ble_eq_true rfl) ⟨rfl, rfl, rfl⟩
          ·
            rw [if_neg hb35] at h
            refine zr_aload_n F zd_XPiece_covers_130 rfl ?_
            obtain ⟨le37, hs36, h⟩ := zoS_s h
            refine zr_get F 6 4 zd_XPiece_covers_131 (zW_o hs36 (by decide)) rfl (by decide) zw_354 rfl (by rfl) ?_
            refine zr_lconstv (v := 0) F zd_XPiece_covers_134 (by decide) ?_
            refine zr_lcmp F zd_XPiece_covers_135 ?_
            refine zr_pcn 136 rfl ?_
            refine zr_if_ne F 151 zd_XPiece_covers_136 (by decide) (fun hb38 => ?_) (fun hb38 => ?_)
            ·
              rw [if_neg hb38] at h
              refine zr_aload_n F zd_XPiece_covers_151 rfl ?_
              refine zr_dup F zd_XPiece_covers_152 rfl ?_
              obtain ⟨le40, hs39, h⟩ := zoS_s h
              refine zr_get F 6 2 zd_XPiece_covers_153 (zW_o hs39 (by decide)) rfl (by decide) zw_352 rfl (by rfl) ?_
              refine zr_aload_n F zd_XPiece_covers_156 rfl ?_
              obtain ⟨le42, hs41, h⟩ := zoS_s h
              obtain ⟨a43, ea43, h⟩ := zoB_s h
              refine zr_get F 6 1 zd_XPiece_covers_157 (zW_o hs41 (by decide)) rfl (by decide) zw_351 rfl (by rfl) ?_
              refine zr_tor ea43 ?_
              refine zr_iconstv (v := 2) F zd_XPiece_covers_160 (by decide) ?_
              obtain ⟨le45, hs44, h⟩ := zoS_s h
              obtain ⟨hi46, h⟩ := zoI_s h
              refine zr_iald F zd_XPiece_covers_161 (zW_a0 hs44) hi46 ?_
              refine zr_pcn 162 rfl ?_
              refine zr_i2l F zd_XPiece_covers_162 ?_
              refine zr_lmul F zd_XPiece_covers_163 ?_
              obtain ⟨x47, ex47, h⟩ := zoL_s h
              rw [← ex47]
              obtain ⟨le49, hs48, h⟩ := zoS_s h
              refine zr_put F 6 2 zd_XPiece_covers_164 (zW_o hs48 (by decide)) rfl (by decide) zw_352 rfl rfl rfl rfl (by exact (Nat.le_of_ble_eq_true rfl)) ?_
              obtain ⟨mm50, emm50, h⟩ := zoL_s h
              refine zr_norm (zW tA b sh mm50) _ (by rw [emm50]; exact zW_pL (v := x47) hs48 (by decide) (zf_L_6_2 b _ _ _)) rfl ?_
              refine zr_aload_n F zd_XPiece_covers_167 rfl ?_
              refine zr_dup F zd_XPiece_covers_168 rfl ?_
              obtain ⟨le52, hs51, h⟩ := zoS_s h
              refine zr_get F 6 3 zd_XPiece_covers_169 (zW_o hs51 (by decide)) rfl (by decide) zw_353 rfl (by rfl) ?_
              refine zr_aload_n F zd_XPiece_covers_172 rfl ?_
              obtain ⟨le54, hs53, h⟩ := zoS_s h
              obtain ⟨a55, ea55, h⟩ := zoB_s h
              refine zr_get F 6 1 zd_XPiece_covers_173 (zW_o hs53 (by decide)) rfl (by decide) zw_351 rfl (by rfl) ?_
              refine zr_tor ea55 ?_
              refine zr_pcn 176 rfl ?_
              refine zr_bipushv (v := 8) F zd_XPiece_covers_176 (by decide) ?_
              obtain ⟨le57, hs56, h⟩ := zoS_s h
              obtain ⟨hi58, h⟩ := zoI_s h
              refine zr_iald F zd_XPiece_covers_178 (zW_a0 hs56) hi58 ?_
              refine zr_i2l F zd_XPiece_covers_179 ?_
              refine zr_lmul F zd_XPiece_covers_180 ?_
              obtain ⟨x59, ex59, h⟩ := zoL_s h
              rw [← ex59]
              obtain ⟨le61, hs60, h⟩ := zoS_s h
              refine zr_put F 6 3 zd_XPiece_covers_181 (zW_o hs60 (by decide)) rfl (by decide) zw_353 rfl rfl rfl rfl (by exact (Nat.le_of_ble_eq_true rfl)) ?_
              obtain ⟨mm62, emm62, h⟩ := zoL_s h
              refine zr_norm (zW tA b sh mm62) _ (by rw [emm62]; exact zW_pL (v := x59) hs60 (by decide) (zf_L_6_3 b _ _ _)) rfl ?_
              refine zr_aload_n F zd_XPiece_covers_184 rfl ?_
              refine zr_dup F zd_XPiece_covers_185 rfl ?_
              obtain ⟨le64, hs63, h⟩ := zoS_s h
              refine zr_get F 6 4 zd_XPiece_covers_186 (zW_o hs63 (by decide)) rfl (by decide) zw_354 rfl (by rfl) ?_
              refine zr_pcn 189 rfl ?_
              refine zr_aload_n F zd_XPiece_covers_189 rfl ?_
              obtain ⟨le66, hs65, h⟩ := zoS_s h
              obtain ⟨a67, ea67, h⟩ := zoB_s h
              refine zr_get F 6 1 zd_XPiece_covers_190 (zW_o hs65 (by decide)) rfl (by decide) zw_351 rfl (by rfl) ?_
              refine zr_tor ea67 ?_
              refine zr_bipushv (v := 14) F zd_XPiece_covers_193 (by decide) ?_
              obtain ⟨le69, hs68, h⟩ := zoS_s h
              obtain ⟨hi70, h⟩ := zoI_s h
              refine zr_iald F zd_XPiece_covers_195 (zW_a0 hs68) hi70 ?_
              refine zr_i2l F zd_XPiece_covers_196 ?_
              refine zr_lmul F zd_XPiece_covers_197 ?_
              obtain ⟨x71, ex71, h⟩ := zoL_s h
              rw [← ex71]
              obtain ⟨le73, hs72, h⟩ := zoS_s h
              refine zr_put F 6 4 zd_XPiece_covers_198 (zW_o hs72 (by decide)) rfl (by decide) zw_354 rfl rfl rfl rfl (by exact (Nat.le_of_ble_eq_true rfl)) ?_
              obtain ⟨mm74, emm74, h⟩ := zoL_s h
              refine zr_norm (zW tA b sh mm74) _ (by rw [emm74]; exact zW_pL (v := x71) hs72 (by decide) (zf_L_6_4 b _ _ _)) rfl ?_
              refine zr_aload_n F zd_XPiece_covers_201 rfl ?_
              refine zr_pcn 202 rfl ?_
              refine zr_aload_n F zd_XPiece_covers_202 rfl ?_
              obtain ⟨le76, hs75, h⟩ := zoS_s h
              refine zr_get F 6 2 zd_XPiece_covers_203 (zW_o hs75 (by decide)) rfl (by decide) zw_352 rfl (by rfl) ?_
              refine zr_aload_n F zd_XPiece_covers_206 rfl ?_
              obtain ⟨le78, hs77, h⟩ := zoS_s h
              refine zr_get F 6 3 zd_XPiece_covers_207 (zW_o hs77 (by decide)) rfl (by decide) zw_353 rfl (by rfl) ?_
              refine zr_ladd F zd_XPiece_covers_210 ?_
              refine zr_aload_n F zd_XPiece_covers_211 rfl ?_
              obtain ⟨le80, hs79, h⟩ := zoS_s h
              refine zr_get F 6 4 zd_XPiece_covers_212 (zW_o hs79 (by decide)) rfl (by decide) zw_354 rfl (by rfl) ?_
              refine zr_ladd F zd_XPiece_covers_215 ?_
              refine zr_pcn 216 rfl ?_
              obtain ⟨x81, ex81, h⟩ := zoL_s h
              rw [← ex81]
              obtain ⟨le83, hs82, h⟩ := zoS_s h
              refine zr_put F 6 5 zd_XPiece_covers_216 (zW_o hs82 (by decide)) rfl (by decide) zw_355 rfl rfl rfl rfl (by exact (Nat.le_of_ble_eq_true rfl)) ?_
              obtain ⟨mm84, emm84, h⟩ := zoL_s h
              refine zr_norm (zW tA b sh mm84) _ (by rw [emm84]; exact zW_pL (v := x81) hs82 (by decide) (zf_L_6_5 b _ _ _)) rfl ?_
              refine zr_iconstv (v := 1) F zd_XPiece_covers_219 (by decide) ?_
              obtain rfl := Option.some.inj h
              exact zr_zret F hr rfl zd_XPiece_covers_220 (Nat.le_of_ble_eq_true rfl) (Nat.le_of_ble_eq_true rfl) ⟨rfl, rfl, rfl⟩
            ·
              rw [if_pos hb38] at h
              refine zr_aload_n F zd_XPiece_covers_139 rfl ?_
              refine zr_iconstv (v := 0) F zd_XPiece_covers_140 (by decide) ?_
              refine zr_bipushv (v := 6) F zd_XPiece_covers_141 (by decide) ?_
              obtain ⟨le86, hs85, h⟩ := zoS_s h
              obtain ⟨p87, ep87, h⟩ := zoB_s h
              refine zr_callV1 F (k_XPiece_ownsEdge l D tA b sh _ ep87) zd_XPiece_covers_143 (zW_o hs85 (by decide)) rfl zs_XPiece_56 rfl zq_XPiece_ownsEdge rfl rfl ⟨(Nat.le_of_ble_eq_true rfl), (Nat.le_of_ble_eq_true rfl)⟩ (Nat.le_of_ble_eq_true rfl) ⟨(Nat.le_of_ble_eq_true rfl), (Nat.le_of_ble_eq_true rfl)⟩ ?_
              refine zr_if_ne F 151 zd_XPiece_covers_146 (by decide) (fun hb88 => ?_) (fun hb88 => ?_)
              ·
                rw [if_neg hb88] at h
                refine zr_pcn 151 rfl ?_
                refine zr_aload_n F zd_XPiece_covers_151 rfl ?_
                refine zr_dup F zd_XPiece_covers_152 rfl ?_
                obtain ⟨le90, hs89, h⟩ := zoS_s h
                refine zr_get F 6 2 zd_XPiece_covers_153 (zW_o hs89 (by decide)) rfl (by decide) zw_352 rfl (by rfl) ?_
                refine zr_aload_n F zd_XPiece_covers_156 rfl ?_
                obtain ⟨le92, hs91, h⟩ := zoS_s h
                obtain ⟨a93, ea93, h⟩ := zoB_s h
                refine zr_get F 6 1 zd_XPiece_covers_157 (zW_o hs91 (by decide)) rfl (by decide) zw_351 rfl (by rfl) ?_
                refine zr_tor ea93 ?_
                refine zr_iconstv (v := 2) F zd_XPiece_covers_160 (by decide) ?_
                obtain ⟨le95, hs94, h⟩ := zoS_s h
                obtain ⟨hi96, h⟩ := zoI_s h
                refine zr_iald F zd_XPiece_covers_161 (zW_a0 hs94) hi96 ?_
                refine zr_i2l F zd_XPiece_covers_162 ?_
                refine zr_pcn 163 rfl ?_
                refine zr_lmul F zd_XPiece_covers_163 ?_
                obtain ⟨x97, ex97, h⟩ := zoL_s h
                rw [← ex97]
                obtain ⟨le99, hs98, h⟩ := zoS_s h
                refine zr_put F 6 2 zd_XPiece_covers_164 (zW_o hs98 (by decide)) rfl (by decide) zw_352 rfl rfl rfl rfl (by exact (Nat.le_of_ble_eq_true rfl)) ?_
                obtain ⟨mm100, emm100, h⟩ := zoL_s h
                refine zr_norm (zW tA b sh mm100) _ (by rw [emm100]; exact zW_pL (v := x97) hs98 (by decide) (zf_L_6_2 b _ _ _)) rfl ?_
                refine zr_aload_n F zd_XPiece_covers_167 rfl ?_
                refine zr_dup F zd_XPiece_covers_168 rfl ?_
                obtain ⟨le102, hs101, h⟩ := zoS_s h
                refine zr_get F 6 3 zd_XPiece_covers_169 (zW_o hs101 (by decide)) rfl (by decide) zw_353 rfl (by rfl) ?_
                refine zr_aload_n F zd_XPiece_covers_172 rfl ?_
                obtain ⟨le104, hs103, h⟩ := zoS_s h
                obtain ⟨a105, ea105, h⟩ := zoB_s h
                refine zr_get F 6 1 zd_XPiece_covers_173 (zW_o hs103 (by decide)) rfl (by decide) zw_351 rfl (by rfl) ?_
                refine zr_tor ea105 ?_
                refine zr_bipushv (v := 8) F zd_XPiece_covers_176 (by decide) ?_
                refine zr_pcn 178 rfl ?_
                obtain ⟨le107, hs106, h⟩ := zoS_s h
                obtain ⟨hi108, h⟩ := zoI_s h
                refine zr_iald F zd_XPiece_covers_178 (zW_a0 hs106) hi108 ?_
                refine zr_i2l F zd_XPiece_covers_179 ?_
                refine zr_lmul F zd_XPiece_covers_180 ?_
                obtain ⟨x109, ex109, h⟩ := zoL_s h
                rw [← ex109]
                obtain ⟨le111, hs110, h⟩ := zoS_s h
                refine zr_put F 6 3 zd_XPiece_covers_181 (zW_o hs110 (by decide)) rfl (by decide) zw_353 rfl rfl rfl rfl (by exact (Nat.le_of_ble_eq_true rfl)) ?_
                obtain ⟨mm112, emm112, h⟩ := zoL_s h
                refine zr_norm (zW tA b sh mm112) _ (by rw [emm112]; exact zW_pL (v := x109) hs110 (by decide) (zf_L_6_3 b _ _ _)) rfl ?_
                refine zr_aload_n F zd_XPiece_covers_184 rfl ?_
                refine zr_dup F zd_XPiece_covers_185 rfl ?_
                obtain ⟨le114, hs113, h⟩ := zoS_s h
                refine zr_get F 6 4 zd_XPiece_covers_186 (zW_o hs113 (by decide)) rfl (by decide) zw_354 rfl (by rfl) ?_
                refine zr_aload_n F zd_XPiece_covers_189 rfl ?_
                refine zr_pcn 190 rfl ?_
                obtain ⟨le116, hs115, h⟩ := zoS_s h
                obtain ⟨a117, ea117, h⟩ := zoB_s h
                refine zr_get F 6 1 zd_XPiece_covers_190 (zW_o hs115 (by decide)) rfl (by decide) zw_351 rfl (by rfl) ?_
                refine zr_tor ea117 ?_
                refine zr_bipushv (v := 14) F zd_XPiece_covers_193 (by decide) ?_
                obtain ⟨le119, hs118, h⟩ := zoS_s h
                obtain ⟨hi120, h⟩ := zoI_s h
                refine zr_iald F zd_XPiece_covers_195 (zW_a0 hs118) hi120 ?_
                refine zr_i2l F zd_XPiece_covers_196 ?_
                refine zr_lmul F zd_XPiece_covers_197 ?_
                obtain ⟨x121, ex121, h⟩ := zoL_s h
                rw [← ex121]
                obtain ⟨le123, hs122, h⟩ := zoS_s h
                refine zr_put F 6 4 zd_XPiece_covers_198 (zW_o hs122 (by decide)) rfl (by decide) zw_354 rfl rfl rfl rfl (by exact (Nat.le_of_ble_eq_true rfl)) ?_
                obtain ⟨mm124, emm124, h⟩ := zoL_s h
                refine zr_norm (zW tA b sh mm124) _ (by rw [emm124]; exact zW_pL (v := x121) hs122 (by decide) (zf_L_6_4 b _ _ _)) rfl ?_
                refine zr_aload_n F zd_XPiece_covers_201 rfl ?_
                refine zr_aload_n F zd_XPiece_covers_202 rfl ?_
                refine zr_pcn 203 rfl ?_
                obtain ⟨le126, hs125, h⟩ := zoS_s h
                refine zr_get F 6 2 zd_XPiece_covers_203 (zW_o hs125 (by decide)) rfl (by decide) zw_352 rfl (by rfl) ?_
                refine zr_aload_n F zd_XPiece_covers_206 rfl ?_
                obtain ⟨le128, hs127, h⟩ := zoS_s h
                refine zr_get F 6 3 zd_XPiece_covers_207 (zW_o hs127 (by decide)) rfl (by decide) zw_353 rfl (by rfl) ?_
                refine zr_ladd F zd_XPiece_covers_210 ?_
                refine zr_aload_n F zd_XPiece_covers_211 rfl ?_
                obtain ⟨le130, hs129, h⟩ := zoS_s h
                refine zr_get F 6 4 zd_XPiece_covers_212 (zW_o hs129 (by decide)) rfl (by decide) zw_354 rfl (by rfl) ?_
                refine zr_ladd F zd_XPiece_covers_215 ?_
                obtain ⟨x131, ex131, h⟩ := zoL_s h
                rw [← ex131]
                obtain ⟨le133, hs132, h⟩ := zoS_s h
                refine zr_put F 6 5 zd_XPiece_covers_216 (zW_o hs132 (by decide)) rfl (by decide) zw_355 rfl rfl rfl rfl (by exact (Nat.le_of_ble_eq_true rfl)) ?_
                obtain ⟨mm134, emm134, h⟩ := zoL_s h
                refine zr_norm (zW tA b sh mm134) _ (by rw [emm134]; exact zW_pL (v := x131) hs132 (by decide) (zf_L_6_5 b _ _ _)) rfl ?_
                refine zr_pcn 219 rfl ?_
                refine zr_iconstv (v := 1) F zd_XPiece_covers_219 (by decide) ?_
                obtain rfl := Option.some.inj h
                exact zr_zret F hr rfl zd_XPiece_covers_220 (Nat.le_of_ble_eq_true rfl) (Nat.le_of_ble_eq_true rfl) ⟨rfl, rfl, rfl⟩
              ·
                rw [if_pos hb88] at h
                refine zr_iconstv (v := 0) F zd_XPiece_covers_149 (by decide) ?_
                obtain rfl := Option.some.inj h
                exact zr_zret F hr rfl zd_XPiece_covers_150 (Nat.le_of_ble_eq_true rfl) (Nat.le_of_ble_eq_true rfl) ⟨rfl, rfl, rfl⟩
        ·
          rw [if_pos hb26] at h
          refine zr_aload_n F zd_XPiece_covers_95 rfl ?_
          refine zr_bipushv (v := 12) F zd_XPiece_covers_96 (by decide) ?_
          refine zr_iconstv (v := 0) F zd_XPiece_covers_98 (by decide) ?_
          obtain ⟨le136, hs135, h⟩ := zoS_s h
          obtain ⟨p137, ep137, h⟩ := zoB_s h
          refine zr_callV1 F (k_XPiece_ownsEdge l D tA b sh _ ep137) zd_XPiece_covers_99 (zW_o hs135 (by decide)) rfl zs_XPiece_56 rfl zq_XPiece_ownsEdge rfl rfl ⟨(Nat.le_of_ble_eq_true rfl), (Nat.le_of_ble_eq_true rfl)⟩ (Nat.le_of_ble_eq_true rfl) ⟨(Nat.le_of_ble_eq_true rfl), (Nat.le_of_ble_eq_true rfl)⟩ ?_
          refine zr_pcn 102 rfl ?_
          refine zr_if_ne F 107 zd_XPiece_covers_102 (by decide) (fun hb138 => ?_) (fun hb138 => ?_)
          ·
            rw [if_neg hb138] at h
            refine zr_aload_n F zd_XPiece_covers_107 rfl ?_
            refine zr_aload_n F zd_XPiece_covers_108 rfl ?_
            refine zr_iconstv (v := 0) F zd_XPiece_covers_109 (by decide) ?_
            refine zr_bipushv (v := 6) F zd_XPiece_covers_110 (by decide) ?_
            refine zr_iload_n F zd_XPiece_covers_112 rfl ?_
            refine zr_iload F zd_XPiece_covers_113 rfl ?_
            obtain ⟨le140, hs139, h⟩ := zoS_s h
            obtain ⟨p141, ep141, h⟩ := zoB_s h
            refine zr_callV1 F (k_XPiece_edge l D tA b sh _ ep141) zd_XPiece_covers_115 (zW_o hs139 (by decide)) rfl zs_XPiece_49 rfl zq_XPiece_edge rfl rfl ⟨(Nat.le_of_ble_eq_true rfl), (Nat.le_of_ble_eq_true rfl)⟩ (Nat.le_of_ble_eq_true rfl) ⟨(Nat.le_of_ble_eq_true rfl), (Nat.le_of_ble_eq_true rfl)⟩ ?_
            refine zr_pcn 118 rfl ?_
            obtain ⟨le143, hs142, h⟩ := zoS_s h
            refine zr_put F 6 4 zd_XPiece_covers_118 (zW_o hs142 (by decide)) rfl (by decide) zw_354 rfl rfl rfl rfl (by exact (Nat.le_of_ble_eq_true rfl)) ?_
            obtain ⟨mm144, emm144, h⟩ := zoL_s h
            refine zr_norm (zW tA b sh mm144) _ (by rw [emm144]; exact zW_pL (v := (p141.1)) hs142 (by decide) (zf_L_6_4 b _ _ _)) rfl ?_
            refine zr_aload_n F zd_XPiece_covers_121 rfl ?_
            obtain ⟨le146, hs145, h⟩ := zoS_s h
            refine zr_get F 6 4 zd_XPiece_covers_122 (zW_o hs145 (by decide)) rfl (by decide) zw_354 rfl (by rfl) ?_
            refine zr_lconstv (v := 0) F zd_XPiece_covers_125 (by decide) ?_
            refine zr_lcmp F zd_XPiece_covers_126 ?_
            refine zr_if_lt F 149 zd_XPiece_covers_127 (by decide) (fun hb147 => ?_) (fun hb147 => ?_)
            ·
              rw [if_pos hb147] at h
              refine zr_iconstv (v := 0) F zd_XPiece_covers_149 (by decide) ?_
              obtain rfl := Option.some.inj h
              exact zr_zret F hr rfl zd_XPiece_covers_150 (Nat.le_of_ble_eq_true rfl) (Nat.le_of_ble_eq_true rfl) ⟨rfl, rfl, rfl⟩
            ·
              rw [if_neg hb147] at h
              refine zr_pcn 130 rfl ?_
              refine zr_aload_n F zd_XPiece_covers_130 rfl ?_
              obtain ⟨le149, hs148, h⟩ := zoS_s h
              refine zr_get F 6 4 zd_XPiece_covers_131 (zW_o hs148 (by decide)) rfl (by decide) zw_354 rfl (by rfl) ?_
              refine zr_lconstv (v := 0) F zd_XPiece_covers_134 (by decide) ?_
              refine zr_lcmp F zd_XPiece_covers_135 ?_
              refine zr_if_ne F 151 zd_XPiece_covers_136 (by decide) (fun hb150 => ?_) (fun hb150 => ?_)
              ·
                rw [if_neg hb150] at h
                refine zr_aload_n F zd_XPiece_covers_151 rfl ?_
                refine zr_dup F zd_XPiece_covers_152 rfl ?_
                obtain ⟨le152, hs151, h⟩ := zoS_s h
                refine zr_get F 6 2 zd_XPiece_covers_153 (zW_o hs151 (by decide)) rfl (by decide) zw_352 rfl (by rfl) ?_
                refine zr_pcn 156 rfl ?_
                refine zr_aload_n F zd_XPiece_covers_156 rfl ?_
                obtain ⟨le154, hs153, h⟩ := zoS_s h
                obtain ⟨a155, ea155, h⟩ := zoB_s h
                refine zr_get F 6 1 zd_XPiece_covers_157 (zW_o hs153 (by decide)) rfl (by decide) zw_351 rfl (by rfl) ?_
                refine zr_tor ea155 ?_
                refine zr_iconstv (v := 2) F zd_XPiece_covers_160 (by decide) ?_
                obtain ⟨le157, hs156, h⟩ := zoS_s h
                obtain ⟨hi158, h⟩ := zoI_s h
                refine zr_iald F zd_XPiece_covers_161 (zW_a0 hs156) hi158 ?_
                refine zr_i2l F zd_XPiece_covers_162 ?_
                refine zr_lmul F zd_XPiece_covers_163 ?_
                obtain ⟨x159, ex159, h⟩ := zoL_s h
                rw [← ex159]
                obtain ⟨le161, hs160, h⟩ := zoS_s h
                refine zr_put F 6 2 zd_XPiece_covers_164 (zW_o hs160 (by decide)) rfl (by decide) zw_352 rfl rfl rfl rfl (by exact (Nat.le_of_ble_eq_true rfl)) ?_
                obtain ⟨mm162, emm162, h⟩ := zoL_s h
                refine zr_norm (zW tA b sh mm162) _ (by rw [emm162]; exact zW_pL (v := x159) hs160 (by decide) (zf_L_6_2 b _ _ _)) rfl ?_
                refine zr_aload_n F zd_XPiece_covers_167 rfl ?_
                refine zr_pcn 168 rfl ?_
                refine zr_dup F zd_XPiece_covers_168 rfl ?_
                obtain ⟨le164, hs163, h⟩ := zoS_s h
                refine zr_get F 6 3 zd_XPiece_covers_169 (zW_o hs163 (by decide)) rfl (by decide) zw_353 rfl (by rfl) ?_
                refine zr_aload_n F zd_XPiece_covers_172 rfl ?_
                obtain ⟨le166, hs165, h⟩ := zoS_s h
                obtain ⟨a167, ea167, h⟩ := zoB_s h
                refine zr_get F 6 1 zd_XPiece_covers_173 (zW_o hs165 (by decide)) rfl (by decide) zw_351 rfl (by rfl) ?_
                refine zr_tor ea167 ?_
                refine zr_bipushv (v := 8) F zd_XPiece_covers_176 (by decide) ?_
                obtain ⟨le169, hs168, h⟩ := zoS_s h
                obtain ⟨hi170, h⟩ := zoI_s h
                refine zr_iald F zd_XPiece_covers_178 (zW_a0 hs168) hi170 ?_
                refine zr_i2l F zd_XPiece_covers_179 ?_
                refine zr_lmul F zd_XPiece_covers_180 ?_
                refine zr_pcn 181 rfl ?_
                obtain ⟨x171, ex171, h⟩ := zoL_s h
                rw [← ex171]
                obtain ⟨le173, hs172, h⟩ := zoS_s h
                refine zr_put F 6 3 zd_XPiece_covers_181 (zW_o hs172 (by decide)) rfl (by decide) zw_353 rfl rfl rfl rfl (by exact (Nat.le_of_ble_eq_true rfl)) ?_
                obtain ⟨mm174, emm174, h⟩ := zoL_s h
                refine zr_norm (zW tA b sh mm174) _ (by rw [emm174]; exact zW_pL (v := x171) hs172 (by decide) (zf_L_6_3 b _ _ _)) rfl ?_
                refine zr_aload_n F zd_XPiece_covers_184 rfl ?_
                refine zr_dup F zd_XPiece_covers_185 rfl ?_
                obtain ⟨le176, hs175, h⟩ := zoS_s h
                refine zr_get F 6 4 zd_XPiece_covers_186 (zW_o hs175 (by decide)) rfl (by decide) zw_354 rfl (by rfl) ?_
                refine zr_aload_n F zd_XPiece_covers_189 rfl ?_
                obtain ⟨le178, hs177, h⟩ := zoS_s h
                obtain ⟨a179, ea179, h⟩ := zoB_s h
                refine zr_get F 6 1 zd_XPiece_covers_190 (zW_o hs177 (by decide)) rfl (by decide) zw_351 rfl (by rfl) ?_
                refine zr_tor ea179 ?_
                refine zr_bipushv (v := 14) F zd_XPiece_covers_193 (by decide) ?_
                obtain ⟨le181, hs180, h⟩ := zoS_s h
                obtain ⟨hi182, h⟩ := zoI_s h
                refine zr_iald F zd_XPiece_covers_195 (zW_a0 hs180) hi182 ?_
                refine zr_pcn 196 rfl ?_
                refine zr_i2l F zd_XPiece_covers_196 ?_
                refine zr_lmul F zd_XPiece_covers_197 ?_
                obtain ⟨x183, ex183, h⟩ := zoL_s h
                rw [← ex183]
                obtain ⟨le185, hs184, h⟩ := zoS_s h
                refine zr_put F 6 4 zd_XPiece_covers_198 (zW_o hs184 (by decide)) rfl (by decide) zw_354 rfl rfl rfl rfl (by exact (Nat.le_of_ble_eq_true rfl)) ?_
                obtain ⟨mm186, emm186, h⟩ := zoL_s h
                refine zr_norm (zW tA b sh mm186) _ (by rw [emm186]; exact zW_pL (v := x183) hs184 (by decide) (zf_L_6_4 b _ _ _)) rfl ?_
                refine zr_aload_n F zd_XPiece_covers_201 rfl ?_
                refine zr_aload_n F zd_XPiece_covers_202 rfl ?_
                obtain ⟨le188, hs187, h⟩ := zoS_s h
                refine zr_get F 6 2 zd_XPiece_covers_203 (zW_o hs187 (by decide)) rfl (by decide) zw_352 rfl (by rfl) ?_
                refine zr_aload_n F zd_XPiece_covers_206 rfl ?_
                obtain ⟨le190, hs189, h⟩ := zoS_s h
                refine zr_get F 6 3 zd_XPiece_covers_207 (zW_o hs189 (by decide)) rfl (by decide) zw_353 rfl (by rfl) ?_
                refine zr_pcn 210 rfl ?_
                refine zr_ladd F zd_XPiece_covers_210 ?_
                refine zr_aload_n F zd_XPiece_covers_211 rfl ?_
                obtain ⟨le192, hs191, h⟩ := zoS_s h
                refine zr_get F 6 4 zd_XPiece_covers_212 (zW_o hs191 (by decide)) rfl (by decide) zw_354 rfl (by rfl) ?_
                refine zr_ladd F zd_XPiece_covers_215 ?_
                obtain ⟨x193, ex193, h⟩ := zoL_s h
                rw [← ex193]
                obtain ⟨le195, hs194, h⟩ := zoS_s h
                refine zr_put F 6 5 zd_XPiece_covers_216 (zW_o hs194 (by decide)) rfl (by decide) zw_355 rfl rfl rfl rfl (by exact (Nat.le_of_ble_eq_true rfl)) ?_
                obtain ⟨mm196, emm196, h⟩ := zoL_s h
                refine zr_norm (zW tA b sh mm196) _ (by rw [emm196]; exact zW_pL (v := x193) hs194 (by decide) (zf_L_6_5 b _ _ _)) rfl ?_
                refine zr_iconstv (v := 1) F zd_XPiece_covers_219 (by decide) ?_
                obtain rfl := Option.some.inj h
                exact zr_zret F hr rfl zd_XPiece_covers_220 (Nat.le_of_ble_eq_true rfl) (Nat.le_of_ble_eq_true rfl) ⟨rfl, rfl, rfl⟩
              ·
                rw [if_pos hb150] at h
                refine zr_aload_n F zd_XPiece_covers_139 rfl ?_
                refine zr_pcn 140 rfl ?_
                refine zr_iconstv (v := 0) F zd_XPiece_covers_140 (by decide) ?_
                refine zr_bipushv (v := 6) F zd_XPiece_covers_141 (by decide) ?_
                obtain ⟨le198, hs197, h⟩ := zoS_s h
                obtain ⟨p199, ep199, h⟩ := zoB_s h
                refine zr_callV1 F (k_XPiece_ownsEdge l D tA b sh _ ep199) zd_XPiece_covers_143 (zW_o hs197 (by decide)) rfl zs_XPiece_56 rfl zq_XPiece_ownsEdge rfl rfl ⟨(Nat.le_of_ble_eq_true rfl), (Nat.le_of_ble_eq_true rfl)⟩ (Nat.le_of_ble_eq_true rfl) ⟨(Nat.le_of_ble_eq_true rfl), (Nat.le_of_ble_eq_true rfl)⟩ ?_
                refine zr_if_ne F 151 zd_XPiece_covers_146 (by decide) (fun hb200 => ?_) (fun hb200 => ?_)
                ·
                  rw [if_neg hb200] at h
                  refine zr_aload_n F zd_XPiece_covers_151 rfl ?_
                  refine zr_dup F zd_XPiece_covers_152 rfl ?_
                  obtain ⟨le202, hs201, h⟩ := zoS_s h
                  refine zr_get F 6 2 zd_XPiece_covers_153 (zW_o hs201 (by decide)) rfl (by decide) zw_352 rfl (by rfl) ?_
                  refine zr_aload_n F zd_XPiece_covers_156 rfl ?_
                  refine zr_pcn 157 rfl ?_
                  obtain ⟨le204, hs203, h⟩ := zoS_s h
                  obtain ⟨a205, ea205, h⟩ := zoB_s h
                  refine zr_get F 6 1 zd_XPiece_covers_157 (zW_o hs203 (by decide)) rfl (by decide) zw_351 rfl (by rfl) ?_
                  refine zr_tor ea205 ?_
                  refine zr_iconstv (v := 2) F zd_XPiece_covers_160 (by decide) ?_
                  obtain ⟨le207, hs206, h⟩ := zoS_s h
                  obtain ⟨hi208, h⟩ := zoI_s h
                  refine zr_iald F zd_XPiece_covers_161 (zW_a0 hs206) hi208 ?_
                  refine zr_i2l F zd_XPiece_covers_162 ?_
                  refine zr_lmul F zd_XPiece_covers_163 ?_
                  obtain ⟨x209, ex209, h⟩ := zoL_s h
                  rw [← ex209]
                  obtain ⟨le211, hs210, h⟩ := zoS_s h
                  refine zr_put F 6 2 zd_XPiece_covers_164 (zW_o hs210 (by decide)) rfl (by decide) zw_352 rfl rfl rfl rfl (by exact (Nat.le_of_ble_eq_true rfl)) ?_
                  obtain ⟨mm212, emm212, h⟩ := zoL_s h
                  refine zr_norm (zW tA b sh mm212) _ (by rw [emm212]; exact zW_pL (v := x209) hs210 (by decide) (zf_L_6_2 b _ _ _)) rfl ?_
                  refine zr_aload_n F zd_XPiece_covers_167 rfl ?_
                  refine zr_dup F zd_XPiece_covers_168 rfl ?_
                  refine zr_pcn 169 rfl ?_
                  obtain ⟨le214, hs213, h⟩ := zoS_s h
                  refine zr_get F 6 3 zd_XPiece_covers_169 (zW_o hs213 (by decide)) rfl (by decide) zw_353 rfl (by rfl) ?_
                  refine zr_aload_n F zd_XPiece_covers_172 rfl ?_
                  obtain ⟨le216, hs215, h⟩ := zoS_s h
                  obtain ⟨a217, ea217, h⟩ := zoB_s h
                  refine zr_get F 6 1 zd_XPiece_covers_173 (zW_o hs215 (by decide)) rfl (by decide) zw_351 rfl (by rfl) ?_
                  refine zr_tor ea217 ?_
                  refine zr_bipushv (v := 8) F zd_XPiece_covers_176 (by decide) ?_
                  obtain ⟨le219, hs218, h⟩ := zoS_s h
                  obtain ⟨hi220, h⟩ := zoI_s h
                  refine zr_iald F zd_XPiece_covers_178 (zW_a0 hs218) hi220 ?_
                  refine zr_i2l F zd_XPiece_covers_179 ?_
                  refine zr_lmul F zd_XPiece_covers_180 ?_
                  obtain ⟨x221, ex221, h⟩ := zoL_s h
                  rw [← ex221]
                  obtain ⟨le223, hs222, h⟩ := zoS_s h
                  refine zr_put F 6 3 zd_XPiece_covers_181 (zW_o hs222 (by decide)) rfl (by decide) zw_353 rfl rfl rfl rfl (by exact (Nat.le_of_ble_eq_true rfl)) ?_
                  obtain ⟨mm224, emm224, h⟩ := zoL_s h
                  refine zr_norm (zW tA b sh mm224) _ (by rw [emm224]; exact zW_pL (v := x221) hs222 (by decide) (zf_L_6_3 b _ _ _)) rfl ?_
                  refine zr_pcn 184 rfl ?_
                  refine zr_aload_n F zd_XPiece_covers_184 rfl ?_
                  refine zr_dup F zd_XPiece_covers_185 rfl ?_
                  obtain ⟨le226, hs225, h⟩ := zoS_s h
                  refine zr_get F 6 4 zd_XPiece_covers_186 (zW_o hs225 (by decide)) rfl (by decide) zw_354 rfl (by rfl) ?_
                  refine zr_aload_n F zd_XPiece_covers_189 rfl ?_
                  obtain ⟨le228, hs227, h⟩ := zoS_s h
                  obtain ⟨a229, ea229, h⟩ := zoB_s h
                  refine zr_get F 6 1 zd_XPiece_covers_190 (zW_o hs227 (by decide)) rfl (by decide) zw_351 rfl (by rfl) ?_
                  refine zr_tor ea229 ?_
                  refine zr_bipushv (v := 14) F zd_XPiece_covers_193 (by decide) ?_
                  obtain ⟨le231, hs230, h⟩ := zoS_s h
                  obtain ⟨hi232, h⟩ := zoI_s h
                  refine zr_iald F zd_XPiece_covers_195 (zW_a0 hs230) hi232 ?_
                  refine zr_i2l F zd_XPiece_covers_196 ?_
                  refine zr_pcn 197 rfl ?_
                  refine zr_lmul F zd_XPiece_covers_197 ?_
                  obtain ⟨x233, ex233, h⟩ := zoL_s h
                  rw [← ex233]
                  obtain ⟨le235, hs234, h⟩ := zoS_s h
                  refine zr_put F 6 4 zd_XPiece_covers_198 (zW_o hs234 (by decide)) rfl (by decide) zw_354 rfl rfl rfl rfl (by exact (Nat.le_of_ble_eq_true rfl)) ?_
                  obtain ⟨mm236, emm236, h⟩ := zoL_s h
                  refine zr_norm (zW tA b sh mm236) _ (by rw [emm236]; exact zW_pL (v := x233) hs234 (by decide) (zf_L_6_4 b _ _ _)) rfl ?_
                  refine zr_aload_n F zd_XPiece_covers_201 rfl ?_
                  refine zr_aload_n F zd_XPiece_covers_202 rfl ?_
                  obtain ⟨le238, hs237, h⟩ := zoS_s h
                  refine zr_get F 6 2 zd_XPiece_covers_203 (zW_o hs237 (by decide)) rfl (by decide) zw_352 rfl (by rfl) ?_
                  refine zr_aload_n F zd_XPiece_covers_206 rfl ?_
                  obtain ⟨le240, hs239, h⟩ := zoS_s h
                  refine zr_get F 6 3 zd_XPiece_covers_207 (zW_o hs239 (by decide)) rfl (by decide) zw_353 rfl (by rfl) ?_
                  refine zr_ladd F zd_XPiece_covers_210 ?_
                  refine zr_pcn 211 rfl ?_
                  refine zr_aload_n F zd_XPiece_covers_211 rfl ?_
                  obtain ⟨le242, hs241, h⟩ := zoS_s h
                  refine zr_get F 6 4 zd_XPiece_covers_212 (zW_o hs241 (by decide)) rfl (by decide) zw_354 rfl (by rfl) ?_
                  refine zr_ladd F zd_XPiece_covers_215 ?_
                  obtain ⟨x243, ex243, h⟩ := zoL_s h
                  rw [← ex243]
                  obtain ⟨le245, hs244, h⟩ := zoS_s h
                  refine zr_put F 6 5 zd_XPiece_covers_216 (zW_o hs244 (by decide)) rfl (by decide) zw_355 rfl rfl rfl rfl (by exact (Nat.le_of_ble_eq_true rfl)) ?_
                  obtain ⟨mm246, emm246, h⟩ := zoL_s h
                  refine zr_norm (zW tA b sh mm246) _ (by rw [emm246]; exact zW_pL (v := x243) hs244 (by decide) (zf_L_6_5 b _ _ _)) rfl ?_
                  refine zr_iconstv (v := 1) F zd_XPiece_covers_219 (by decide) ?_
                  obtain rfl := Option.some.inj h
                  exact zr_zret F hr rfl zd_XPiece_covers_220 (Nat.le_of_ble_eq_true rfl) (Nat.le_of_ble_eq_true rfl) ⟨rfl, rfl, rfl⟩
                ·
                  rw [if_pos hb200] at h
                  refine zr_iconstv (v := 0) F zd_XPiece_covers_149 (by decide) ?_
                  obtain rfl := Option.some.inj h
                  exact zr_zret F hr rfl zd_XPiece_covers_150 (Nat.le_of_ble_eq_true rfl) (Nat.le_of_ble_eq_true rfl) ⟨rfl, rfl, rfl⟩
          ·
            rw [if_pos hb138] at h
            refine zr_pcn 105 rfl ?_
            refine zr_iconstv (v := 0) F zd_XPiece_covers_105 (by decide) ?_
            obtain rfl := Option.some.inj h
            exact zr_zret F hr rfl zd_XPiece_covers_106 (Nat.le_of_ble_eq_true rfl) (Nat.le_of_ble_eq_true rfl) ⟨rfl, rfl, rfl⟩
    ·
      rw [if_pos hb14] at h
      refine zr_aload_n F zd_XPiece_covers_50 rfl ?_
      refine zr_bipushv (v := 6) F zd_XPiece_covers_51 (by decide) ?_
      refine zr_bipushv (v := 12) F zd_XPiece_covers_53 (by decide) ?_
      obtain ⟨le248, hs247, h⟩ := zoS_s h
      obtain ⟨p249, ep249, h⟩ := zoB_s h
      refine zr_callV1 F (k_XPiece_ownsEdge l D tA b sh _ ep249) zd_XPiece_covers_55 (zW_o hs247 (by decide)) rfl zs_XPiece_56 rfl zq_XPiece_ownsEdge rfl rfl ⟨(Nat.le_of_ble_eq_true rfl), (Nat.le_of_ble_eq_true rfl)⟩ (Nat.le_of_ble_eq_true rfl) ⟨(Nat.le_of_ble_eq_true rfl), (Nat.le_of_ble_eq_true rfl)⟩ ?_
      refine zr_if_ne F 63 zd_XPiece_covers_58 (by decide) (fun hb250 => ?_) (fun hb250 => ?_)
      ·
        rw [if_neg hb250] at h
        refine zr_aload_n F zd_XPiece_covers_63 rfl ?_
        refine zr_pcn 64 rfl ?_
        refine zr_aload_n F zd_XPiece_covers_64 rfl ?_
        refine zr_bipushv (v := 12) F zd_XPiece_covers_65 (by decide) ?_
        refine zr_iconstv (v := 0) F zd_XPiece_covers_67 (by decide) ?_
        refine zr_iload_n F zd_XPiece_covers_68 rfl ?_
        refine zr_iload F zd_XPiece_covers_69 rfl ?_
        obtain ⟨le252, hs251, h⟩ := zoS_s h
        obtain ⟨p253, ep253, h⟩ := zoB_s h
        refine zr_callV1 F (k_XPiece_edge l D tA b sh _ ep253) zd_XPiece_covers_71 (zW_o hs251 (by decide)) rfl zs_XPiece_49 rfl zq_XPiece_edge rfl rfl ⟨(Nat.le_of_ble_eq_true rfl), (Nat.le_of_ble_eq_true rfl)⟩ (Nat.le_of_ble_eq_true rfl) ⟨(Nat.le_of_ble_eq_true rfl), (Nat.le_of_ble_eq_true rfl)⟩ ?_
        obtain ⟨le255, hs254, h⟩ := zoS_s h
        refine zr_put F 6 3 zd_XPiece_covers_74 (zW_o hs254 (by decide)) rfl (by decide) zw_353 rfl rfl rfl rfl (by exact (Nat.le_of_ble_eq_true rfl)) ?_
        obtain ⟨mm256, emm256, h⟩ := zoL_s h
        refine zr_norm (zW tA b sh mm256) _ (by rw [emm256]; exact zW_pL (v := (p253.1)) hs254 (by decide) (zf_L_6_3 b _ _ _)) rfl ?_
        refine zr_aload_n F zd_XPiece_covers_77 rfl ?_
        refine zr_pcn 78 rfl ?_
        obtain ⟨le258, hs257, h⟩ := zoS_s h
        refine zr_get F 6 3 zd_XPiece_covers_78 (zW_o hs257 (by decide)) rfl (by decide) zw_353 rfl (by rfl) ?_
        refine zr_lconstv (v := 0) F zd_XPiece_covers_81 (by decide) ?_
        refine zr_lcmp F zd_XPiece_covers_82 ?_
        refine zr_if_lt F 105 zd_XPiece_covers_83 (by decide) (fun hb259 => ?_) (fun hb259 => ?_)
        ·
          rw [if_pos hb259] at h
          refine zr_iconstv (v := 0) F zd_XPiece_covers_105 (by decide) ?_
          obtain rfl := Option.some.inj h
          exact zr_zret F hr rfl zd_XPiece_covers_106 (Nat.le_of_ble_eq_true rfl) (Nat.le_of_ble_eq_true rfl) ⟨rfl, rfl, rfl⟩
        ·
          rw [if_neg hb259] at h
          refine zr_aload_n F zd_XPiece_covers_86 rfl ?_
          obtain ⟨le261, hs260, h⟩ := zoS_s h
          refine zr_get F 6 3 zd_XPiece_covers_87 (zW_o hs260 (by decide)) rfl (by decide) zw_353 rfl (by rfl) ?_
          refine zr_pcn 90 rfl ?_
          refine zr_lconstv (v := 0) F zd_XPiece_covers_90 (by decide) ?_
          refine zr_lcmp F zd_XPiece_covers_91 ?_
          refine zr_if_ne F 107 zd_XPiece_covers_92 (by decide) (fun hb262 => ?_) (fun hb262 => ?_)
          ·
            rw [if_neg hb262] at h
            refine zr_aload_n F zd_XPiece_covers_107 rfl ?_
            refine zr_aload_n F zd_XPiece_covers_108 rfl ?_
            refine zr_iconstv (v := 0) F zd_XPiece_covers_109 (by decide) ?_
            refine zr_bipushv (v := 6) F zd_XPiece_covers_110 (by decide) ?_
            refine zr_iload_n F zd_XPiece_covers_112 rfl ?_
            refine zr_pcn 113 rfl ?_
            refine zr_iload F zd_XPiece_covers_113 rfl ?_
            obtain ⟨le264, hs263, h⟩ := zoS_s h
            obtain ⟨p265, ep265, h⟩ := zoB_s h
            refine zr_callV1 F (k_XPiece_edge l D tA b sh _ ep265) zd_XPiece_covers_115 (zW_o hs263 (by decide)) rfl zs_XPiece_49 rfl zq_XPiece_edge rfl rfl ⟨(Nat.le_of_ble_eq_true rfl), (Nat.le_of_ble_eq_true rfl)⟩ (Nat.le_of_ble_eq_true rfl) ⟨(Nat.le_of_ble_eq_true rfl), (Nat.le_of_ble_eq_true rfl)⟩ ?_
            obtain ⟨le267, hs266, h⟩ := zoS_s h
            refine zr_put F 6 4 zd_XPiece_covers_118 (zW_o hs266 (by decide)) rfl (by decide) zw_354 rfl rfl rfl rfl (by exact (Nat.le_of_ble_eq_true rfl)) ?_
            obtain ⟨mm268, emm268, h⟩ := zoL_s h
            refine zr_norm (zW tA b sh mm268) _ (by rw [emm268]; exact zW_pL (v := (p265.1)) hs266 (by decide) (zf_L_6_4 b _ _ _)) rfl ?_
            refine zr_aload_n F zd_XPiece_covers_121 rfl ?_
            obtain ⟨le270, hs269, h⟩ := zoS_s h
            refine zr_get F 6 4 zd_XPiece_covers_122 (zW_o hs269 (by decide)) rfl (by decide) zw_354 rfl (by rfl) ?_
            refine zr_lconstv (v := 0) F zd_XPiece_covers_125 (by decide) ?_
            refine zr_lcmp F zd_XPiece_covers_126 ?_
            refine zr_if_lt F 149 zd_XPiece_covers_127 (by decide) (fun hb271 => ?_) (fun hb271 => ?_)
            ·
              rw [if_pos hb271] at h
              refine zr_pcn 149 rfl ?_
              refine zr_iconstv (v := 0) F zd_XPiece_covers_149 (by decide) ?_
              obtain rfl := Option.some.inj h
              exact zr_zret F hr rfl zd_XPiece_covers_150 (Nat.le_of_ble_eq_true rfl) (Nat.le_of_ble_eq_true rfl) ⟨rfl, rfl, rfl⟩
            ·
              rw [if_neg hb271] at h
              refine zr_aload_n F zd_XPiece_covers_130 rfl ?_
              obtain ⟨le273, hs272, h⟩ := zoS_s h
              refine zr_get F 6 4 zd_XPiece_covers_131 (zW_o hs272 (by decide)) rfl (by decide) zw_354 rfl (by rfl) ?_
              refine zr_lconstv (v := 0) F zd_XPiece_covers_134 (by decide) ?_
              refine zr_lcmp F zd_XPiece_covers_135 ?_
              refine zr_if_ne F 151 zd_XPiece_covers_136 (by decide) (fun hb274 => ?_) (fun hb274 => ?_)
              ·
                rw [if_neg hb274] at h
                refine zr_aload_n F zd_XPiece_covers_151 rfl ?_
                refine zr_pcn 152 rfl ?_
                refine zr_dup F zd_XPiece_covers_152 rfl ?_
                obtain ⟨le276, hs275, h⟩ := zoS_s h
                refine zr_get F 6 2 zd_XPiece_covers_153 (zW_o hs275 (by decide)) rfl (by decide) zw_352 rfl (by rfl) ?_
                refine zr_aload_n F zd_XPiece_covers_156 rfl ?_
                obtain ⟨le278, hs277, h⟩ := zoS_s h
                obtain ⟨a279, ea279, h⟩ := zoB_s h
                refine zr_get F 6 1 zd_XPiece_covers_157 (zW_o hs277 (by decide)) rfl (by decide) zw_351 rfl (by rfl) ?_
                refine zr_tor ea279 ?_
                refine zr_iconstv (v := 2) F zd_XPiece_covers_160 (by decide) ?_
                obtain ⟨le281, hs280, h⟩ := zoS_s h
                obtain ⟨hi282, h⟩ := zoI_s h
                refine zr_iald F zd_XPiece_covers_161 (zW_a0 hs280) hi282 ?_
                refine zr_i2l F zd_XPiece_covers_162 ?_
                refine zr_lmul F zd_XPiece_covers_163 ?_
                refine zr_pcn 164 rfl ?_
                obtain ⟨x283, ex283, h⟩ := zoL_s h
                rw [← ex283]
                obtain ⟨le285, hs284, h⟩ := zoS_s h
                refine zr_put F 6 2 zd_XPiece_covers_164 (zW_o hs284 (by decide)) rfl (by decide) zw_352 rfl rfl rfl rfl (by exact (Nat.le_of_ble_eq_true rfl)) ?_
                obtain ⟨mm286, emm286, h⟩ := zoL_s h
                refine zr_norm (zW tA b sh mm286) _ (by rw [emm286]; exact zW_pL (v := x283) hs284 (by decide) (zf_L_6_2 b _ _ _)) rfl ?_
                refine zr_aload_n F zd_XPiece_covers_167 rfl ?_
                refine zr_dup F zd_XPiece_covers_168 rfl ?_
                obtain ⟨le288, hs287, h⟩ := zoS_s h
                refine zr_get F 6 3 zd_XPiece_covers_169 (zW_o hs287 (by decide)) rfl (by decide) zw_353 rfl (by rfl) ?_
                refine zr_aload_n F zd_XPiece_covers_172 rfl ?_
                obtain ⟨le290, hs289, h⟩ := zoS_s h
                obtain ⟨a291, ea291, h⟩ := zoB_s h
                refine zr_get F 6 1 zd_XPiece_covers_173 (zW_o hs289 (by decide)) rfl (by decide) zw_351 rfl (by rfl) ?_
                refine zr_tor ea291 ?_
                refine zr_bipushv (v := 8) F zd_XPiece_covers_176 (by decide) ?_
                obtain ⟨le293, hs292, h⟩ := zoS_s h
                obtain ⟨hi294, h⟩ := zoI_s h
                refine zr_iald F zd_XPiece_covers_178 (zW_a0 hs292) hi294 ?_
                refine zr_pcn 179 rfl ?_
                refine zr_i2l F zd_XPiece_covers_179 ?_
                refine zr_lmul F zd_XPiece_covers_180 ?_
                obtain ⟨x295, ex295, h⟩ := zoL_s h
                rw [← ex295]
                obtain ⟨le297, hs296, h⟩ := zoS_s h
                refine zr_put F 6 3 zd_XPiece_covers_181 (zW_o hs296 (by decide)) rfl (by decide) zw_353 rfl rfl rfl rfl (by exact (Nat.le_of_ble_eq_true rfl)) ?_
                obtain ⟨mm298, emm298, h⟩ := zoL_s h
                refine zr_norm (zW tA b sh mm298) _ (by rw [emm298]; exact zW_pL (v := x295) hs296 (by decide) (zf_L_6_3 b _ _ _)) rfl ?_
                refine zr_aload_n F zd_XPiece_covers_184 rfl ?_
                refine zr_dup F zd_XPiece_covers_185 rfl ?_
                obtain ⟨le300, hs299, h⟩ := zoS_s h
                refine zr_get F 6 4 zd_XPiece_covers_186 (zW_o hs299 (by decide)) rfl (by decide) zw_354 rfl (by rfl) ?_
                refine zr_aload_n F zd_XPiece_covers_189 rfl ?_
                obtain ⟨le302, hs301, h⟩ := zoS_s h
                obtain ⟨a303, ea303, h⟩ := zoB_s h
                refine zr_get F 6 1 zd_XPiece_covers_190 (zW_o hs301 (by decide)) rfl (by decide) zw_351 rfl (by rfl) ?_
                refine zr_tor ea303 ?_
                refine zr_pcn 193 rfl ?_
                refine zr_bipushv (v := 14) F zd_XPiece_covers_193 (by decide) ?_
                obtain ⟨le305, hs304, h⟩ := zoS_s h
                obtain ⟨hi306, h⟩ := zoI_s h
                refine zr_iald F zd_XPiece_covers_195 (zW_a0 hs304) hi306 ?_
                refine zr_i2l F zd_XPiece_covers_196 ?_
                refine zr_lmul F zd_XPiece_covers_197 ?_
                obtain ⟨x307, ex307, h⟩ := zoL_s h
                rw [← ex307]
                obtain ⟨le309, hs308, h⟩ := zoS_s h
                refine zr_put F 6 4 zd_XPiece_covers_198 (zW_o hs308 (by decide)) rfl (by decide) zw_354 rfl rfl rfl rfl (by exact (Nat.le_of_ble_eq_true rfl)) ?_
                obtain ⟨mm310, emm310, h⟩ := zoL_s h
                refine zr_norm (zW tA b sh mm310) _ (by rw [emm310]; exact zW_pL (v := x307) hs308 (by decide) (zf_L_6_4 b _ _ _)) rfl ?_
                refine zr_aload_n F zd_XPiece_covers_201 rfl ?_
                refine zr_aload_n F zd_XPiece_covers_202 rfl ?_
                obtain ⟨le312, hs311, h⟩ := zoS_s h
                refine zr_get F 6 2 zd_XPiece_covers_203 (zW_o hs311 (by decide)) rfl (by decide) zw_352 rfl (by rfl) ?_
                refine zr_pcn 206 rfl ?_
                refine zr_aload_n F zd_XPiece_covers_206 rfl ?_
                obtain ⟨le314, hs313, h⟩ := zoS_s h
                refine zr_get F 6 3 zd_XPiece_covers_207 (zW_o hs313 (by decide)) rfl (by decide) zw_353 rfl (by rfl) ?_
                refine zr_ladd F zd_XPiece_covers_210 ?_
                refine zr_aload_n F zd_XPiece_covers_211 rfl ?_
                obtain ⟨le316, hs315, h⟩ := zoS_s h
                refine zr_get F 6 4 zd_XPiece_covers_212 (zW_o hs315 (by decide)) rfl (by decide) zw_354 rfl (by rfl) ?_
                refine zr_ladd F zd_XPiece_covers_215 ?_
                obtain ⟨x317, ex317, h⟩ := zoL_s h
                rw [← ex317]
                obtain ⟨le319, hs318, h⟩ := zoS_s h
                refine zr_put F 6 5 zd_XPiece_covers_216 (zW_o hs318 (by decide)) rfl (by decide) zw_355 rfl rfl rfl rfl (by exact (Nat.le_of_ble_eq_true rfl)) ?_
                obtain ⟨mm320, emm320, h⟩ := zoL_s h
                refine zr_norm (zW tA b sh mm320) _ (by rw [emm320]; exact zW_pL (v := x317) hs318 (by decide) (zf_L_6_5 b _ _ _)) rfl ?_
                refine zr_iconstv (v := 1) F zd_XPiece_covers_219 (by decide) ?_
                refine zr_pcn 220 rfl ?_
                obtain rfl := Option.some.inj h
                exact zr_zret F hr rfl zd_XPiece_covers_220 (Nat.le_of_ble_eq_true rfl) (Nat.le_of_ble_eq_true rfl) ⟨rfl, rfl, rfl⟩
              ·
                rw [if_pos hb274] at h
                refine zr_aload_n F zd_XPiece_covers_139 rfl ?_
                refine zr_iconstv (v := 0) F zd_XPiece_covers_140 (by decide) ?_
                refine zr_bipushv (v := 6) F zd_XPiece_covers_141 (by decide) ?_
                obtain ⟨le322, hs321, h⟩ := zoS_s h
                obtain ⟨p323, ep323, h⟩ := zoB_s h
                refine zr_callV1 F (k_XPiece_ownsEdge l D tA b sh _ ep323) zd_XPiece_covers_143 (zW_o hs321 (by decide)) rfl zs_XPiece_56 rfl zq_XPiece_ownsEdge rfl rfl ⟨(Nat.le_of_ble_eq_true rfl), (Nat.le_of_ble_eq_true rfl)⟩ (Nat.le_of_ble_eq_true rfl) ⟨(Nat.le_of_ble_eq_true rfl), (Nat.le_of_ble_eq_true rfl)⟩ ?_
                refine zr_if_ne F 151 zd_XPiece_covers_146 (by decide) (fun hb324 => ?_) (fun hb324 => ?_)
                ·
                  rw [if_neg hb324] at h
                  refine zr_aload_n F zd_XPiece_covers_151 rfl ?_
                  refine zr_dup F zd_XPiece_covers_152 rfl ?_
                  refine zr_pcn 153 rfl ?_
                  obtain ⟨le326, hs325, h⟩ := zoS_s h
                  refine zr_get F 6 2 zd_XPiece_covers_153 (zW_o hs325 (by decide)) rfl (by decide) zw_352 rfl (by rfl) ?_
                  refine zr_aload_n F zd_XPiece_covers_156 rfl ?_
                  obtain ⟨le328, hs327, h⟩ := zoS_s h
                  obtain ⟨a329, ea329, h⟩ := zoB_s h
                  refine zr_get F 6 1 zd_XPiece_covers_157 (zW_o hs327 (by decide)) rfl (by decide) zw_351 rfl (by rfl) ?_
                  refine zr_tor ea329 ?_
                  refine zr_iconstv (v := 2) F zd_XPiece_covers_160 (by decide) ?_
                  obtain ⟨le331, hs330, h⟩ := zoS_s h
                  obtain ⟨hi332, h⟩ := zoI_s h
                  refine zr_iald F zd_XPiece_covers_161 (zW_a0 hs330) hi332 ?_
                  refine zr_i2l F zd_XPiece_covers_162 ?_
                  refine zr_lmul F zd_XPiece_covers_163 ?_
                  obtain ⟨x333, ex333, h⟩ := zoL_s h
                  rw [← ex333]
                  obtain ⟨le335, hs334, h⟩ := zoS_s h
                  refine zr_put F 6 2 zd_XPiece_covers_164 (zW_o hs334 (by decide)) rfl (by decide) zw_352 rfl rfl rfl rfl (by exact (Nat.le_of_ble_eq_true rfl)) ?_
                  obtain ⟨mm336, emm336, h⟩ := zoL_s h
                  refine zr_norm (zW tA b sh mm336) _ (by rw [emm336]; exact zW_pL (v := x333) hs334 (by decide) (zf_L_6_2 b _ _ _)) rfl ?_
                  refine zr_pcn 167 rfl ?_
                  refine zr_aload_n F zd_XPiece_covers_167 rfl ?_
                  refine zr_dup F zd_XPiece_covers_168 rfl ?_
                  obtain ⟨le338, hs337, h⟩ := zoS_s h
                  refine zr_get F 6 3 zd_XPiece_covers_169 (zW_o hs337 (by decide)) rfl (by decide) zw_353 rfl (by rfl) ?_
                  refine zr_aload_n F zd_XPiece_covers_172 rfl ?_
                  obtain ⟨le340, hs339, h⟩ := zoS_s h
                  obtain ⟨a341, ea341, h⟩ := zoB_s h
                  refine zr_get F 6 1 zd_XPiece_covers_173 (zW_o hs339 (by decide)) rfl (by decide) zw_351 rfl (by rfl) ?_
                  refine zr_tor ea341 ?_
                  refine zr_bipushv (v := 8) F zd_XPiece_covers_176 (by decide) ?_
                  obtain ⟨le343, hs342, h⟩ := zoS_s h
                  obtain ⟨hi344, h⟩ := zoI_s h
                  refine zr_iald F zd_XPiece_covers_178 (zW_a0 hs342) hi344 ?_
                  refine zr_i2l F zd_XPiece_covers_179 ?_
                  refine zr_pcn 180 rfl ?_
                  refine zr_lmul F zd_XPiece_covers_180 ?_
                  obtain ⟨x345, ex345, h⟩ := zoL_s h
                  rw [← ex345]
                  obtain ⟨le347, hs346, h⟩ := zoS_s h
                  refine zr_put F 6 3 zd_XPiece_covers_181 (zW_o hs346 (by decide)) rfl (by decide) zw_353 rfl rfl rfl rfl (by exact (Nat.le_of_ble_eq_true rfl)) ?_
                  obtain ⟨mm348, emm348, h⟩ := zoL_s h
                  refine zr_norm (zW tA b sh mm348) _ (by rw [emm348]; exact zW_pL (v := x345) hs346 (by decide) (zf_L_6_3 b _ _ _)) rfl ?_
                  refine zr_aload_n F zd_XPiece_covers_184 rfl ?_
                  refine zr_dup F zd_XPiece_covers_185 rfl ?_
                  obtain ⟨le350, hs349, h⟩ := zoS_s h
                  refine zr_get F 6 4 zd_XPiece_covers_186 (zW_o hs349 (by decide)) rfl (by decide) zw_354 rfl (by rfl) ?_
                  refine zr_aload_n F zd_XPiece_covers_189 rfl ?_
                  obtain ⟨le352, hs351, h⟩ := zoS_s h
                  obtain ⟨a353, ea353, h⟩ := zoB_s h
                  refine zr_get F 6 1 zd_XPiece_covers_190 (zW_o hs351 (by decide)) rfl (by decide) zw_351 rfl (by rfl) ?_
                  refine zr_tor ea353 ?_
                  refine zr_bipushv (v := 14) F zd_XPiece_covers_193 (by decide) ?_
                  refine zr_pcn 195 rfl ?_
                  obtain ⟨le355, hs354, h⟩ := zoS_s h
                  obtain ⟨hi356, h⟩ := zoI_s h
                  refine zr_iald F zd_XPiece_covers_195 (zW_a0 hs354) hi356 ?_
                  refine zr_i2l F zd_XPiece_covers_196 ?_
                  refine zr_lmul F zd_XPiece_covers_197 ?_
                  obtain ⟨x357, ex357, h⟩ := zoL_s h
                  rw [← ex357]
                  obtain ⟨le359, hs358, h⟩ := zoS_s h
                  refine zr_put F 6 4 zd_XPiece_covers_198 (zW_o hs358 (by decide)) rfl (by decide) zw_354 rfl rfl rfl rfl (by exact (Nat.le_of_ble_eq_true rfl)) ?_
                  obtain ⟨mm360, emm360, h⟩ := zoL_s h
                  refine zr_norm (zW tA b sh mm360) _ (by rw [emm360]; exact zW_pL (v := x357) hs358 (by decide) (zf_L_6_4 b _ _ _)) rfl ?_
                  refine zr_aload_n F zd_XPiece_covers_201 rfl ?_
                  refine zr_aload_n F zd_XPiece_covers_202 rfl ?_
                  obtain ⟨le362, hs361, h⟩ := zoS_s h
                  refine zr_get F 6 2 zd_XPiece_covers_203 (zW_o hs361 (by decide)) rfl (by decide) zw_352 rfl (by rfl) ?_
                  refine zr_aload_n F zd_XPiece_covers_206 rfl ?_
                  refine zr_pcn 207 rfl ?_
                  obtain ⟨le364, hs363, h⟩ := zoS_s h
                  refine zr_get F 6 3 zd_XPiece_covers_207 (zW_o hs363 (by decide)) rfl (by decide) zw_353 rfl (by rfl) ?_
                  refine zr_ladd F zd_XPiece_covers_210 ?_
                  refine zr_aload_n F zd_XPiece_covers_211 rfl ?_
                  obtain ⟨le366, hs365, h⟩ := zoS_s h
                  refine zr_get F 6 4 zd_XPiece_covers_212 (zW_o hs365 (by decide)) rfl (by decide) zw_354 rfl (by rfl) ?_
                  refine zr_ladd F zd_XPiece_covers_215 ?_
                  obtain ⟨x367, ex367, h⟩ := zoL_s h
                  rw [← ex367]
                  obtain ⟨le369, hs368, h⟩ := zoS_s h
                  refine zr_put F 6 5 zd_XPiece_covers_216 (zW_o hs368 (by decide)) rfl (by decide) zw_355 rfl rfl rfl rfl (by exact (Nat.le_of_ble_eq_true rfl)) ?_
                  obtain ⟨mm370, emm370, h⟩ := zoL_s h
                  refine zr_norm (zW tA b sh mm370) _ (by rw [emm370]; exact zW_pL (v := x367) hs368 (by decide) (zf_L_6_5 b _ _ _)) rfl ?_
                  refine zr_iconstv (v := 1) F zd_XPiece_covers_219 (by decide) ?_
                  obtain rfl := Option.some.inj h
                  exact zr_zret F hr rfl zd_XPiece_covers_220 (Nat.le_of_ble_eq_true rfl) (Nat.le_of_ble_eq_true rfl) ⟨rfl, rfl, rfl⟩
                ·
                  rw [if_pos hb324] at h
                  refine zr_pcn 149 rfl ?_
                  refine zr_iconstv (v := 0) F zd_XPiece_covers_149 (by decide) ?_
                  obtain rfl := Option.some.inj h
                  exact zr_zret F hr rfl zd_XPiece_covers_150 (Nat.le_of_ble_eq_true rfl) (Nat.le_of_ble_eq_true rfl) ⟨rfl, rfl, rfl⟩
          ·
            rw [if_pos hb262] at h
            refine zr_aload_n F zd_XPiece_covers_95 rfl ?_
            refine zr_bipushv (v := 12) F zd_XPiece_covers_96 (by decide) ?_
            refine zr_iconstv (v := 0) F zd_XPiece_covers_98 (by decide) ?_
            obtain ⟨le372, hs371, h⟩ := zoS_s h
            obtain ⟨p373, ep373, h⟩ := zoB_s h
            refine zr_callV1 F (k_XPiece_ownsEdge l D tA b sh _ ep373) zd_XPiece_covers_99 (zW_o hs371 (by decide)) rfl zs_XPiece_56 rfl zq_XPiece_ownsEdge rfl rfl ⟨(Nat.le_of_ble_eq_true rfl), (Nat.le_of_ble_eq_true rfl)⟩ (Nat.le_of_ble_eq_true rfl) ⟨(Nat.le_of_ble_eq_true rfl), (Nat.le_of_ble_eq_true rfl)⟩ ?_
            refine zr_if_ne F 107 zd_XPiece_covers_102 (by decide) (fun hb374 => ?_) (fun hb374 => ?_)
            ·
              rw [if_neg hb374] at h
              refine zr_aload_n F zd_XPiece_covers_107 rfl ?_
              refine zr_pcn 108 rfl ?_
              refine zr_aload_n F zd_XPiece_covers_108 rfl ?_
              refine zr_iconstv (v := 0) F zd_XPiece_covers_109 (by decide) ?_
              refine zr_bipushv (v := 6) F zd_XPiece_covers_110 (by decide) ?_
              refine zr_iload_n F zd_XPiece_covers_112 rfl ?_
              refine zr_iload F zd_XPiece_covers_113 rfl ?_
              obtain ⟨le376, hs375, h⟩ := zoS_s h
              obtain ⟨p377, ep377, h⟩ := zoB_s h
              refine zr_callV1 F (k_XPiece_edge l D tA b sh _ ep377) zd_XPiece_covers_115 (zW_o hs375 (by decide)) rfl zs_XPiece_49 rfl zq_XPiece_edge rfl rfl ⟨(Nat.le_of_ble_eq_true rfl), (Nat.le_of_ble_eq_true rfl)⟩ (Nat.le_of_ble_eq_true rfl) ⟨(Nat.le_of_ble_eq_true rfl), (Nat.le_of_ble_eq_true rfl)⟩ ?_
              obtain ⟨le379, hs378, h⟩ := zoS_s h
              refine zr_put F 6 4 zd_XPiece_covers_118 (zW_o hs378 (by decide)) rfl (by decide) zw_354 rfl rfl rfl rfl (by exact (Nat.le_of_ble_eq_true rfl)) ?_
              obtain ⟨mm380, emm380, h⟩ := zoL_s h
              refine zr_norm (zW tA b sh mm380) _ (by rw [emm380]; exact zW_pL (v := (p377.1)) hs378 (by decide) (zf_L_6_4 b _ _ _)) rfl ?_
              refine zr_aload_n F zd_XPiece_covers_121 rfl ?_
              refine zr_pcn 122 rfl ?_
              obtain ⟨le382, hs381, h⟩ := zoS_s h
              refine zr_get F 6 4 zd_XPiece_covers_122 (zW_o hs381 (by decide)) rfl (by decide) zw_354 rfl (by rfl) ?_
              refine zr_lconstv (v := 0) F zd_XPiece_covers_125 (by decide) ?_
              refine zr_lcmp F zd_XPiece_covers_126 ?_
              refine zr_if_lt F 149 zd_XPiece_covers_127 (by decide) (fun hb383 => ?_) (fun hb383 => ?_)
              ·
                rw [if_pos hb383] at h
                refine zr_iconstv (v := 0) F zd_XPiece_covers_149 (by decide) ?_
                obtain rfl := Option.some.inj h
                exact zr_zret F hr rfl zd_XPiece_covers_150 (Nat.le_of_ble_eq_true rfl) (Nat.le_of_ble_eq_true rfl) ⟨rfl, rfl, rfl⟩
              ·
                rw [if_neg hb383] at h
                refine zr_aload_n F zd_XPiece_covers_130 rfl ?_
                obtain ⟨le385, hs384, h⟩ := zoS_s h
                refine zr_get F 6 4 zd_XPiece_covers_131 (zW_o hs384 (by decide)) rfl (by decide) zw_354 rfl (by rfl) ?_
                refine zr_pcn 134 rfl ?_
                refine zr_lconstv (v := 0) F zd_XPiece_covers_134 (by decide) ?_
                refine zr_lcmp F zd_XPiece_covers_135 ?_
                refine zr_if_ne F 151 zd_XPiece_covers_136 (by decide) (fun hb386 => ?_) (fun hb386 => ?_)
                ·
                  rw [if_neg hb386] at h
                  refine zr_aload_n F zd_XPiece_covers_151 rfl ?_
                  refine zr_dup F zd_XPiece_covers_152 rfl ?_
                  obtain ⟨le388, hs387, h⟩ := zoS_s h
                  refine zr_get F 6 2 zd_XPiece_covers_153 (zW_o hs387 (by decide)) rfl (by decide) zw_352 rfl (by rfl) ?_
                  refine zr_aload_n F zd_XPiece_covers_156 rfl ?_
                  obtain ⟨le390, hs389, h⟩ := zoS_s h
                  obtain ⟨a391, ea391, h⟩ := zoB_s h
                  refine zr_get F 6 1 zd_XPiece_covers_157 (zW_o hs389 (by decide)) rfl (by decide) zw_351 rfl (by rfl) ?_
                  refine zr_tor ea391 ?_
                  refine zr_pcn 160 rfl ?_
                  refine zr_iconstv (v := 2) F zd_XPiece_covers_160 (by decide) ?_
                  obtain ⟨le393, hs392, h⟩ := zoS_s h
                  obtain ⟨hi394, h⟩ := zoI_s h
                  refine zr_iald F zd_XPiece_covers_161 (zW_a0 hs392) hi394 ?_
                  refine zr_i2l F zd_XPiece_covers_162 ?_
                  refine zr_lmul F zd_XPiece_covers_163 ?_
                  obtain ⟨x395, ex395, h⟩ := zoL_s h
                  rw [← ex395]
                  obtain ⟨le397, hs396, h⟩ := zoS_s h
                  refine zr_put F 6 2 zd_XPiece_covers_164 (zW_o hs396 (by decide)) rfl (by decide) zw_352 rfl rfl rfl rfl (by exact (Nat.le_of_ble_eq_true rfl)) ?_
                  obtain ⟨mm398, emm398, h⟩ := zoL_s h
                  refine zr_norm (zW tA b sh mm398) _ (by rw [emm398]; exact zW_pL (v := x395) hs396 (by decide) (zf_L_6_2 b _ _ _)) rfl ?_
                  refine zr_aload_n F zd_XPiece_covers_167 rfl ?_
                  refine zr_dup F zd_XPiece_covers_168 rfl ?_
                  obtain ⟨le400, hs399, h⟩ := zoS_s h
                  refine zr_get F 6 3 zd_XPiece_covers_169 (zW_o hs399 (by decide)) rfl (by decide) zw_353 rfl (by rfl) ?_
                  refine zr_pcn 172 rfl ?_
                  refine zr_aload_n F zd_XPiece_covers_172 rfl ?_
                  obtain ⟨le402, hs401, h⟩ := zoS_s h
                  obtain ⟨a403, ea403, h⟩ := zoB_s h
                  refine zr_get F 6 1 zd_XPiece_covers_173 (zW_o hs401 (by decide)) rfl (by decide) zw_351 rfl (by rfl) ?_
                  refine zr_tor ea403 ?_
                  refine zr_bipushv (v := 8) F zd_XPiece_covers_176 (by decide) ?_
                  obtain ⟨le405, hs404, h⟩ := zoS_s h
                  obtain ⟨hi406, h⟩ := zoI_s h
                  refine zr_iald F zd_XPiece_covers_178 (zW_a0 hs404) hi406 ?_
                  refine zr_i2l F zd_XPiece_covers_179 ?_
                  refine zr_lmul F zd_XPiece_covers_180 ?_
                  obtain ⟨x407, ex407, h⟩ := zoL_s h
                  rw [← ex407]
                  obtain ⟨le409, hs408, h⟩ := zoS_s h
                  refine zr_put F 6 3 zd_XPiece_covers_181 (zW_o hs408 (by decide)) rfl (by decide) zw_353 rfl rfl rfl rfl (by exact (Nat.le_of_ble_eq_true rfl)) ?_
                  obtain ⟨mm410, emm410, h⟩ := zoL_s h
                  refine zr_norm (zW tA b sh mm410) _ (by rw [emm410]; exact zW_pL (v := x407) hs408 (by decide) (zf_L_6_3 b _ _ _)) rfl ?_
                  refine zr_aload_n F zd_XPiece_covers_184 rfl ?_
                  refine zr_pcn 185 rfl ?_
                  refine zr_dup F zd_XPiece_covers_185 rfl ?_
                  obtain ⟨le412, hs411, h⟩ := zoS_s h
                  refine zr_get F 6 4 zd_XPiece_covers_186 (zW_o hs411 (by decide)) rfl (by decide) zw_354 rfl (by rfl) ?_
                  refine zr_aload_n F zd_XPiece_covers_189 rfl ?_
                  obtain ⟨le414, hs413, h⟩ := zoS_s h
                  obtain ⟨a415, ea415, h⟩ := zoB_s h
                  refine zr_get F 6 1 zd_XPiece_covers_190 (zW_o hs413 (by decide)) rfl (by decide) zw_351 rfl (by rfl) ?_
                  refine zr_tor ea415 ?_
                  refine zr_bipushv (v := 14) F zd_XPiece_covers_193 (by decide) ?_
                  obtain ⟨le417, hs416, h⟩ := zoS_s h
                  obtain ⟨hi418, h⟩ := zoI_s h
                  refine zr_iald F zd_XPiece_covers_195 (zW_a0 hs416) hi418 ?_
                  refine zr_i2l F zd_XPiece_covers_196 ?_
                  refine zr_lmul F zd_XPiece_covers_197 ?_
                  refine zr_pcn 198 rfl ?_
                  obtain ⟨x419, ex419, h⟩ := zoL_s h
                  rw [← ex419]
                  obtain ⟨le421, hs420, h⟩ := zoS_s h
                  refine zr_put F 6 4 zd_XPiece_covers_198 (zW_o hs420 (by decide)) rfl (by decide) zw_354 rfl rfl rfl rfl (by exact (Nat.le_of_ble_eq_true rfl)) ?_
                  obtain ⟨mm422, emm422, h⟩ := zoL_s h
                  refine zr_norm (zW tA b sh mm422) _ (by rw [emm422]; exact zW_pL (v := x419) hs420 (by decide) (zf_L_6_4 b _ _ _)) rfl ?_
                  refine zr_aload_n F zd_XPiece_covers_201 rfl ?_
                  refine zr_aload_n F zd_XPiece_covers_202 rfl ?_
                  obtain ⟨le424, hs423, h⟩ := zoS_s h
                  refine zr_get F 6 2 zd_XPiece_covers_203 (zW_o hs423 (by decide)) rfl (by decide) zw_352 rfl (by rfl) ?_
                  refine zr_aload_n F zd_XPiece_covers_206 rfl ?_
                  obtain ⟨le426, hs425, h⟩ := zoS_s h
                  refine zr_get F 6 3 zd_XPiece_covers_207 (zW_o hs425 (by decide)) rfl (by decide) zw_353 rfl (by rfl) ?_
                  refine zr_ladd F zd_XPiece_covers_210 ?_
                  refine zr_aload_n F zd_XPiece_covers_211 rfl ?_
                  refine zr_pcn 212 rfl ?_
                  obtain ⟨le428, hs427, h⟩ := zoS_s h
                  refine zr_get F 6 4 zd_XPiece_covers_212 (zW_o hs427 (by decide)) rfl (by decide) zw_354 rfl (by rfl) ?_
                  refine zr_ladd F zd_XPiece_covers_215 ?_
                  obtain ⟨x429, ex429, h⟩ := zoL_s h
                  rw [← ex429]
                  obtain ⟨le431, hs430, h⟩ := zoS_s h
                  refine zr_put F 6 5 zd_XPiece_covers_216 (zW_o hs430 (by decide)) rfl (by decide) zw_355 rfl rfl rfl rfl (by exact (Nat.le_of_ble_eq_true rfl)) ?_
                  obtain ⟨mm432, emm432, h⟩ := zoL_s h
                  refine zr_norm (zW tA b sh mm432) _ (by rw [emm432]; exact zW_pL (v := x429) hs430 (by decide) (zf_L_6_5 b _ _ _)) rfl ?_
                  refine zr_iconstv (v := 1) F zd_XPiece_covers_219 (by decide) ?_
                  obtain rfl := Option.some.inj h
                  exact zr_zret F hr rfl zd_XPiece_covers_220 (Nat.le_of_ble_eq_true rfl) (Nat.le_of_ble_eq_true rfl) ⟨rfl, rfl, rfl⟩
                ·
                  rw [if_pos hb386] at h
                  refine zr_aload_n F zd_XPiece_covers_139 rfl ?_
                  refine zr_iconstv (v := 0) F zd_XPiece_covers_140 (by decide) ?_
                  refine zr_bipushv (v := 6) F zd_XPiece_covers_141 (by decide) ?_
                  refine zr_pcn 143 rfl ?_
                  obtain ⟨le434, hs433, h⟩ := zoS_s h
                  obtain ⟨p435, ep435, h⟩ := zoB_s h
                  refine zr_callV1 F (k_XPiece_ownsEdge l D tA b sh _ ep435) zd_XPiece_covers_143 (zW_o hs433 (by decide)) rfl zs_XPiece_56 rfl zq_XPiece_ownsEdge rfl rfl ⟨(Nat.le_of_ble_eq_true rfl), (Nat.le_of_ble_eq_true rfl)⟩ (Nat.le_of_ble_eq_true rfl) ⟨(Nat.le_of_ble_eq_true rfl), (Nat.le_of_ble_eq_true rfl)⟩ ?_
                  refine zr_if_ne F 151 zd_XPiece_covers_146 (by decide) (fun hb436 => ?_) (fun hb436 => ?_)
                  ·
                    rw [if_neg hb436] at h
                    refine zr_aload_n F zd_XPiece_covers_151 rfl ?_
                    refine zr_dup F zd_XPiece_covers_152 rfl ?_
                    obtain ⟨le438, hs437, h⟩ := zoS_s h
                    refine zr_get F 6 2 zd_XPiece_covers_153 (zW_o hs437 (by decide)) rfl (by decide) zw_352 rfl (by rfl) ?_
                    refine zr_aload_n F zd_XPiece_covers_156 rfl ?_
                    obtain ⟨le440, hs439, h⟩ := zoS_s h
                    obtain ⟨a441, ea441, h⟩ := zoB_s h
                    refine zr_get F 6 1 zd_XPiece_covers_157 (zW_o hs439 (by decide)) rfl (by decide) zw_351 rfl (by rfl) ?_
                    refine zr_tor ea441 ?_
                    refine zr_iconstv (v := 2) F zd_XPiece_covers_160 (by decide) ?_
                    refine zr_pcn 161 rfl ?_
                    obtain ⟨le443, hs442, h⟩ := zoS_s h
                    obtain ⟨hi444, h⟩ := zoI_s h
                    refine zr_iald F zd_XPiece_covers_161 (zW_a0 hs442) hi444 ?_
                    refine zr_i2l F zd_XPiece_covers_162 ?_
                    refine zr_lmul F zd_XPiece_covers_163 ?_
                    obtain ⟨x445, ex445, h⟩ := zoL_s h
                    rw [← ex445]
                    obtain ⟨le447, hs446, h⟩ := zoS_s h
                    refine zr_put F 6 2 zd_XPiece_covers_164 (zW_o hs446 (by decide)) rfl (by decide) zw_352 rfl rfl rfl rfl (by exact (Nat.le_of_ble_eq_true rfl)) ?_
                    obtain ⟨mm448, emm448, h⟩ := zoL_s h
                    refine zr_norm (zW tA b sh mm448) _ (by rw [emm448]; exact zW_pL (v := x445) hs446 (by decide) (zf_L_6_2 b _ _ _)) rfl ?_
                    refine zr_aload_n F zd_XPiece_covers_167 rfl ?_
                    refine zr_dup F zd_XPiece_covers_168 rfl ?_
                    obtain ⟨le450, hs449, h⟩ := zoS_s h
                    refine zr_get F 6 3 zd_XPiece_covers_169 (zW_o hs449 (by decide)) rfl (by decide) zw_353 rfl (by rfl) ?_
                    refine zr_aload_n F zd_XPiece_covers_172 rfl ?_
                    refine zr_pcn 173 rfl ?_
                    obtain ⟨le452, hs451, h⟩ := zoS_s h
                    obtain ⟨a453, ea453, h⟩ := zoB_s h
                    refine zr_get F 6 1 zd_XPiece_covers_173 (zW_o hs451 (by decide)) rfl (by decide) zw_351 rfl (by rfl) ?_
                    refine zr_tor ea453 ?_
                    refine zr_bipushv (v := 8) F zd_XPiece_covers_176 (by decide) ?_
                    obtain ⟨le455, hs454, h⟩ := zoS_s h
                    obtain ⟨hi456, h⟩ := zoI_s h
                    refine zr_iald F zd_XPiece_covers_178 (zW_a0 hs454) hi456 ?_
                    refine zr_i2l F zd_XPiece_covers_179 ?_
                    refine zr_lmul F zd_XPiece_covers_180 ?_
                    obtain ⟨x457, ex457, h⟩ := zoL_s h
                    rw [← ex457]
                    obtain ⟨le459, hs458, h⟩ := zoS_s h
                    refine zr_put F 6 3 zd_XPiece_covers_181 (zW_o hs458 (by decide)) rfl (by decide) zw_353 rfl rfl rfl rfl (by exact (Nat.le_of_ble_eq_true rfl)) ?_
                    obtain ⟨mm460, emm460, h⟩ := zoL_s h
                    refine zr_norm (zW tA b sh mm460) _ (by rw [emm460]; exact zW_pL (v := x457) hs458 (by decide) (zf_L_6_3 b _ _ _)) rfl ?_
                    refine zr_aload_n F zd_XPiece_covers_184 rfl ?_
                    refine zr_dup F zd_XPiece_covers_185 rfl ?_
                    refine zr_pcn 186 rfl ?_
                    obtain ⟨le462, hs461, h⟩ := zoS_s h
                    refine zr_get F 6 4 zd_XPiece_covers_186 (zW_o hs461 (by decide)) rfl (by decide) zw_354 rfl (by rfl) ?_
                    refine zr_aload_n F zd_XPiece_covers_189 rfl ?_
                    obtain ⟨le464, hs463, h⟩ := zoS_s h
                    obtain ⟨a465, ea465, h⟩ := zoB_s h
                    refine zr_get F 6 1 zd_XPiece_covers_190 (zW_o hs463 (by decide)) rfl (by decide) zw_351 rfl (by rfl) ?_
                    refine zr_tor ea465 ?_
                    refine zr_bipushv (v := 14) F zd_XPiece_covers_193 (by decide) ?_
                    obtain ⟨le467, hs466, h⟩ := zoS_s h
                    obtain ⟨hi468, h⟩ := zoI_s h
                    refine zr_iald F zd_XPiece_covers_195 (zW_a0 hs466) hi468 ?_
                    refine zr_i2l F zd_XPiece_covers_196 ?_
                    refine zr_lmul F zd_XPiece_covers_197 ?_
                    obtain ⟨x469, ex469, h⟩ := zoL_s h
                    rw [← ex469]
                    obtain ⟨le471, hs470, h⟩ := zoS_s h
                    refine zr_put F 6 4 zd_XPiece_covers_198 (zW_o hs470 (by decide)) rfl (by decide) zw_354 rfl rfl rfl rfl (by exact (Nat.le_of_ble_eq_true rfl)) ?_
                    obtain ⟨mm472, emm472, h⟩ := zoL_s h
                    refine zr_norm (zW tA b sh mm472) _ (by rw [emm472]; exact zW_pL (v := x469) hs470 (by decide) (zf_L_6_4 b _ _ _)) rfl ?_
                    refine zr_pcn 201 rfl ?_
                    refine zr_aload_n F zd_XPiece_covers_201 rfl ?_
                    refine zr_aload_n F zd_XPiece_covers_202 rfl ?_
                    obtain ⟨le474, hs473, h⟩ := zoS_s h
                    refine zr_get F 6 2 zd_XPiece_covers_203 (zW_o hs473 (by decide)) rfl (by decide) zw_352 rfl (by rfl) ?_
                    refine zr_aload_n F zd_XPiece_covers_206 rfl ?_
                    obtain ⟨le476, hs475, h⟩ := zoS_s h
                    refine zr_get F 6 3 zd_XPiece_covers_207 (zW_o hs475 (by decide)) rfl (by decide) zw_353 rfl (by rfl) ?_
                    refine zr_ladd F zd_XPiece_covers_210 ?_
                    refine zr_aload_n F zd_XPiece_covers_211 rfl ?_
                    obtain ⟨le478, hs477, h⟩ := zoS_s h
                    refine zr_get F 6 4 zd_XPiece_covers_212 (zW_o hs477 (by decide)) rfl (by decide) zw_354 rfl (by rfl) ?_
                    refine zr_pcn 215 rfl ?_
                    refine zr_ladd F zd_XPiece_covers_215 ?_
                    obtain ⟨x479, ex479, h⟩ := zoL_s h
                    rw [← ex479]
                    obtain ⟨le481, hs480, h⟩ := zoS_s h
                    refine zr_put F 6 5 zd_XPiece_covers_216 (zW_o hs480 (by decide)) rfl (by decide) zw_355 rfl rfl rfl rfl (by exact (Nat.le_of_ble_eq_true rfl)) ?_
                    obtain ⟨mm482, emm482, h⟩ := zoL_s h
                    refine zr_norm (zW tA b sh mm482) _ (by rw [emm482]; exact zW_pL (v := x479) hs480 (by decide) (zf_L_6_5 b _ _ _)) rfl ?_
                    refine zr_iconstv (v := 1) F zd_XPiece_covers_219 (by decide) ?_
                    obtain rfl := Option.some.inj h
                    exact zr_zret F hr rfl zd_XPiece_covers_220 (Nat.le_of_ble_eq_true rfl) (Nat.le_of_ble_eq_true rfl) ⟨rfl, rfl, rfl⟩
                  ·
                    rw [if_pos hb436] at h
                    refine zr_iconstv (v := 0) F zd_XPiece_covers_149 (by decide) ?_
                    obtain rfl := Option.some.inj h
                    exact zr_zret F hr rfl zd_XPiece_covers_150 (Nat.le_of_ble_eq_true rfl) (Nat.le_of_ble_eq_true rfl) ⟨rfl, rfl, rfl⟩
            ·
              rw [if_pos hb374] at h
              refine zr_iconstv (v := 0) F zd_XPiece_covers_105 (by decide) ?_
              obtain rfl := Option.some.inj h
              exact zr_zret F hr rfl zd_XPiece_covers_106 (Nat.le_of_ble_eq_true rfl) (Nat.le_of_ble_eq_true rfl) ⟨rfl, rfl, rfl⟩
      ·
        rw [if_pos hb250] at h
        refine zr_pcn 61 rfl ?_
        refine zr_iconstv (v := 0) F zd_XPiece_covers_61 (by decide) ?_
        obtain rfl := Option.some.inj h
        exact zr_zret F hr rfl zd_XPiece_covers_62 (Nat.le_of_ble_eq_true rfl) (Nat.le_of_ble_eq_true rfl) ⟨rfl, rfl, rfl⟩
abbrev zb_XReader_needNumber : ByteArray := prog_8_method_14_code
def zy_XReader_needNumber : MethodName := ⟨"OrreryBox$Reader", "needNumber", "(II)I"⟩
theorem zc_XReader_needNumber : Cond.code zy_XReader_needNumber zb_XReader_needNumber 6 (some .int) ∈ gw := gw_t 1194 (by decide +kernel) rfl
theorem zq_XReader_needNumber : zy_XReader_needNumber.cls ≠ "java/lang/invoke/MethodHandle" ∧ zy_XReader_needNumber.cls ≠ "java/lang/invoke/VarHandle" ∧ (parseMethodDescriptor zy_XReader_needNumber.desc).map (fun d => d.parameters.length) = some 2 := by decide +kernel
theorem zd_XReader_needNumber_0 : decode zb_XReader_needNumber 0 = .ok (.aload_n 0, 1) := by decide +kernel
theorem zd_XReader_needNumber_1 : decode zb_XReader_needNumber 1 = .ok (.aload_n 0, 1) := by decide +kernel
theorem zd_XReader_needNumber_2 : decode zb_XReader_needNumber 2 = .ok (.getfield 27, 3) := by decide +kernel
theorem zd_XReader_needNumber_5 : decode zb_XReader_needNumber 5 = .ok (.putfield 146, 3) := by decide +kernel
theorem zd_XReader_needNumber_8 : decode zb_XReader_needNumber 8 = .ok (.aload_n 0, 1) := by decide +kernel
theorem zd_XReader_needNumber_9 : decode zb_XReader_needNumber 9 = .ok (.bipush 45, 2) := by decide +kernel
theorem zd_XReader_needNumber_11 : decode zb_XReader_needNumber 11 = .ok (.invokevirtual 49, 3) := by decide +kernel
theorem zd_XReader_needNumber_14 : decode zb_XReader_needNumber 14 = .ok (.ifCond .eq 12, 3) := by decide +kernel
theorem zd_XReader_needNumber_17 : decode zb_XReader_needNumber 17 = .ok (.aload_n 0, 1) := by decide +kernel
theorem zd_XReader_needNumber_18 : decode zb_XReader_needNumber 18 = .ok (.getfield 27, 3) := by decide +kernel
theorem zd_XReader_needNumber_21 : decode zb_XReader_needNumber 21 = .ok (.iconst 1, 1) := by decide +kernel
theorem zd_XReader_needNumber_22 : decode zb_XReader_needNumber 22 = .ok (.iadd, 1) := by decide +kernel
theorem zd_XReader_needNumber_23 : decode zb_XReader_needNumber 23 = .ok (.goto 7, 3) := by decide +kernel
theorem zd_XReader_needNumber_26 : decode zb_XReader_needNumber 26 = .ok (.aload_n 0, 1) := by decide +kernel
theorem zd_XReader_needNumber_27 : decode zb_XReader_needNumber 27 = .ok (.getfield 27, 3) := by decide +kernel
theorem zd_XReader_needNumber_30 : decode zb_XReader_needNumber 30 = .ok (.istore_n 3, 1) := by decide +kernel
theorem zd_XReader_needNumber_31 : decode zb_XReader_needNumber 31 = .ok (.iload_n 3, 1) := by decide +kernel
theorem zd_XReader_needNumber_32 : decode zb_XReader_needNumber 32 = .ok (.istore 4, 2) := by decide +kernel
theorem zd_XReader_needNumber_34 : decode zb_XReader_needNumber 34 = .ok (.iconst 0, 1) := by decide +kernel
theorem zd_XReader_needNumber_35 : decode zb_XReader_needNumber 35 = .ok (.istore 5, 2) := by decide +kernel
theorem zd_XReader_needNumber_37 : decode zb_XReader_needNumber 37 = .ok (.iload 4, 2) := by decide +kernel
theorem zd_XReader_needNumber_39 : decode zb_XReader_needNumber 39 = .ok (.aload_n 0, 1) := by decide +kernel
theorem zd_XReader_needNumber_40 : decode zb_XReader_needNumber 40 = .ok (.getfield 19, 3) := by decide +kernel
theorem zd_XReader_needNumber_43 : decode zb_XReader_needNumber 43 = .ok (.if_icmp .ge 57, 3) := by decide +kernel
theorem zd_XReader_needNumber_46 : decode zb_XReader_needNumber 46 = .ok (.aload_n 0, 1) := by decide +kernel
theorem zd_XReader_needNumber_47 : decode zb_XReader_needNumber 47 = .ok (.getfield 15, 3) := by decide +kernel
theorem zd_XReader_needNumber_50 : decode zb_XReader_needNumber 50 = .ok (.iload 4, 2) := by decide +kernel
theorem zd_XReader_needNumber_52 : decode zb_XReader_needNumber 52 = .ok (.baload, 1) := by decide +kernel
theorem zd_XReader_needNumber_53 : decode zb_XReader_needNumber 53 = .ok (.bipush 48, 2) := by decide +kernel
theorem zd_XReader_needNumber_55 : decode zb_XReader_needNumber 55 = .ok (.if_icmp .lt 45, 3) := by decide +kernel
theorem zd_XReader_needNumber_58 : decode zb_XReader_needNumber 58 = .ok (.aload_n 0, 1) := by decide +kernel
theorem zd_XReader_needNumber_59 : decode zb_XReader_needNumber 59 = .ok (.getfield 15, 3) := by decide +kernel
theorem zd_XReader_needNumber_62 : decode zb_XReader_needNumber 62 = .ok (.iload 4, 2) := by decide +kernel
theorem zd_XReader_needNumber_64 : decode zb_XReader_needNumber 64 = .ok (.baload, 1) := by decide +kernel
theorem zd_XReader_needNumber_65 : decode zb_XReader_needNumber 65 = .ok (.bipush 57, 2) := by decide +kernel
theorem zd_XReader_needNumber_67 : decode zb_XReader_needNumber 67 = .ok (.if_icmp .gt 33, 3) := by decide +kernel
theorem zd_XReader_needNumber_70 : decode zb_XReader_needNumber 70 = .ok (.ldc_w 283, 3) := by decide +kernel
theorem zd_XReader_needNumber_73 : decode zb_XReader_needNumber 73 = .ok (.bipush 10, 2) := by decide +kernel
theorem zd_XReader_needNumber_75 : decode zb_XReader_needNumber 75 = .ok (.iload 5, 2) := by decide +kernel
theorem zd_XReader_needNumber_77 : decode zb_XReader_needNumber 77 = .ok (.imul, 1) := by decide +kernel
theorem zd_XReader_needNumber_78 : decode zb_XReader_needNumber 78 = .ok (.aload_n 0, 1) := by decide +kernel
theorem zd_XReader_needNumber_79 : decode zb_XReader_needNumber 79 = .ok (.getfield 15, 3) := by decide +kernel
theorem zd_XReader_needNumber_82 : decode zb_XReader_needNumber 82 = .ok (.iload 4, 2) := by decide +kernel
theorem zd_XReader_needNumber_84 : decode zb_XReader_needNumber 84 = .ok (.baload, 1) := by decide +kernel
theorem zd_XReader_needNumber_85 : decode zb_XReader_needNumber 85 = .ok (.iadd, 1) := by decide +kernel
theorem zd_XReader_needNumber_86 : decode zb_XReader_needNumber 86 = .ok (.bipush 48, 2) := by decide +kernel
theorem zd_XReader_needNumber_88 : decode zb_XReader_needNumber 88 = .ok (.isub, 1) := by decide +kernel
theorem zd_XReader_needNumber_89 : decode zb_XReader_needNumber 89 = .ok (.invokestatic 284, 3) := by decide +kernel
theorem zd_XReader_needNumber_92 : decode zb_XReader_needNumber 92 = .ok (.istore 5, 2) := by decide +kernel
theorem zd_XReader_needNumber_94 : decode zb_XReader_needNumber 94 = .ok (.iinc 4 1, 3) := by decide +kernel
theorem zd_XReader_needNumber_97 : decode zb_XReader_needNumber 97 = .ok (.goto (-60), 3) := by decide +kernel
theorem zd_XReader_needNumber_100 : decode zb_XReader_needNumber 100 = .ok (.iload 4, 2) := by decide +kernel
theorem zd_XReader_needNumber_102 : decode zb_XReader_needNumber 102 = .ok (.iload_n 3, 1) := by decide +kernel
theorem zd_XReader_needNumber_103 : decode zb_XReader_needNumber 103 = .ok (.if_icmp .ne 12, 3) := by decide +kernel
theorem zd_XReader_needNumber_106 : decode zb_XReader_needNumber 106 = .ok (.aload_n 0, 1) := by decide +kernel
theorem zd_XReader_needNumber_107 : decode zb_XReader_needNumber 107 = .ok (.iconst 1, 1) := by decide +kernel
theorem zd_XReader_needNumber_108 : decode zb_XReader_needNumber 108 = .ok (.aload_n 0, 1) := by decide +kernel
theorem zd_XReader_needNumber_109 : decode zb_XReader_needNumber 109 = .ok (.getfield 27, 3) := by decide +kernel
theorem zd_XReader_needNumber_112 : decode zb_XReader_needNumber 112 = .ok (.invokevirtual 77, 3) := by decide +kernel
theorem zd_XReader_needNumber_115 : decode zb_XReader_needNumber 115 = .ok (.aload_n 0, 1) := by decide +kernel
theorem zd_XReader_needNumber_116 : decode zb_XReader_needNumber 116 = .ok (.bipush 45, 2) := by decide +kernel
theorem zd_XReader_needNumber_118 : decode zb_XReader_needNumber 118 = .ok (.invokevirtual 49, 3) := by decide +kernel
theorem zd_XReader_needNumber_121 : decode zb_XReader_needNumber 121 = .ok (.ifCond .eq 9, 3) := by decide +kernel
theorem zd_XReader_needNumber_124 : decode zb_XReader_needNumber 124 = .ok (.iload 5, 2) := by decide +kernel
theorem zd_XReader_needNumber_126 : decode zb_XReader_needNumber 126 = .ok (.ineg, 1) := by decide +kernel
theorem zd_XReader_needNumber_127 : decode zb_XReader_needNumber 127 = .ok (.goto 5, 3) := by decide +kernel
theorem zd_XReader_needNumber_130 : decode zb_XReader_needNumber 130 = .ok (.iload 5, 2) := by decide +kernel
theorem zd_XReader_needNumber_132 : decode zb_XReader_needNumber 132 = .ok (.istore 5, 2) := by decide +kernel
theorem zd_XReader_needNumber_134 : decode zb_XReader_needNumber 134 = .ok (.aload_n 0, 1) := by decide +kernel
theorem zd_XReader_needNumber_135 : decode zb_XReader_needNumber 135 = .ok (.iload 4, 2) := by decide +kernel
theorem zd_XReader_needNumber_137 : decode zb_XReader_needNumber 137 = .ok (.aload_n 0, 1) := by decide +kernel
theorem zd_XReader_needNumber_138 : decode zb_XReader_needNumber 138 = .ok (.getfield 27, 3) := by decide +kernel
theorem zd_XReader_needNumber_141 : decode zb_XReader_needNumber 141 = .ok (.isub, 1) := by decide +kernel
theorem zd_XReader_needNumber_142 : decode zb_XReader_needNumber 142 = .ok (.invokevirtual 41, 3) := by decide +kernel
theorem zd_XReader_needNumber_145 : decode zb_XReader_needNumber 145 = .ok (.iload 5, 2) := by decide +kernel
theorem zd_XReader_needNumber_147 : decode zb_XReader_needNumber 147 = .ok (.iload_n 1, 1) := by decide +kernel
theorem zd_XReader_needNumber_148 : decode zb_XReader_needNumber 148 = .ok (.if_icmp .lt 9, 3) := by decide +kernel
theorem zd_XReader_needNumber_151 : decode zb_XReader_needNumber 151 = .ok (.iload 5, 2) := by decide +kernel
theorem zd_XReader_needNumber_153 : decode zb_XReader_needNumber 153 = .ok (.iload_n 2, 1) := by decide +kernel
theorem zd_XReader_needNumber_154 : decode zb_XReader_needNumber 154 = .ok (.if_icmp .le 12, 3) := by decide +kernel
theorem zd_XReader_needNumber_157 : decode zb_XReader_needNumber 157 = .ok (.aload_n 0, 1) := by decide +kernel
theorem zd_XReader_needNumber_158 : decode zb_XReader_needNumber 158 = .ok (.iconst 2, 1) := by decide +kernel
theorem zd_XReader_needNumber_159 : decode zb_XReader_needNumber 159 = .ok (.aload_n 0, 1) := by decide +kernel
theorem zd_XReader_needNumber_160 : decode zb_XReader_needNumber 160 = .ok (.getfield 146, 3) := by decide +kernel
theorem zd_XReader_needNumber_163 : decode zb_XReader_needNumber 163 = .ok (.invokevirtual 77, 3) := by decide +kernel
theorem zd_XReader_needNumber_166 : decode zb_XReader_needNumber 166 = .ok (.iload 5, 2) := by decide +kernel
theorem zd_XReader_needNumber_168 : decode zb_XReader_needNumber 168 = .ok (.ireturn, 1) := by decide +kernel
theorem zw_54 : (Jvm.Cond.fieldLink "OrreryBox$Reader" (146 : Nat) "OrreryBox$Reader" "numberAt" "I") ∈ gw := gw_t 54 (by decide +kernel) rfl
theorem zf_I_7_6 (b : Nat) (m : zMem) (k : Nat) (v : Int32) : (zfl b 7 m k).set 6 (.int v) = zfl b 7 (mI m k 6 v) k := by simp [zfl, mI, upd, vp_updL]
theorem zw_1195 : (Jvm.Cond.constant "OrreryBox$Reader" (283 : Nat) (100000000 : Int32)) ∈ gw := gw_t 1195 (by decide +kernel) rfl
theorem zw_1196 : (Jvm.Cond.methodLink "OrreryBox$Reader" (284 : Nat) ({ cls := "java/lang/Math", name := "min", desc := "(II)I" } : Jvm.MethodName)) ∈ gw := gw_t 1196 (by decide +kernel) rfl
theorem zs_XReader_284 : zwS "OrreryBox$Reader" 284 zy_JMath_min zb_JMath_min 2 (some .int) := ⟨zw_1196, zw_121, zw_4, zc_JMath_min⟩
def L_XReader_needNumber_37 (sh : zSh) (fuel : Nat) (v0 : Nat) (v1 : Int32) (v2 : Int32) (v3 : Int32) (v4 : Int32) (v5 : Int32) (mm : zMem) : Option (Nat × Int32 × Int32 × Int32 × Int32 × Int32 × zMem) := match fuel with
  | 0 => none
  | fu + 1 => zoS (sh v0) 7 (fun le15 => (if (mm.1 v0 4) ≤ v4 then some (v0, v1, v2, v3, v4, v5, mm) else zoS (sh v0) 7 (fun le18 => Option.bind (mm.2.2 v0 3) (fun a19 => zoS (sh a19) 101 (fun le21 => if (v4 : Int32) < 0 ∨ le21 ≤ (v4 : Int32).toNatClampNeg then none else (if (mm.1 a19 (v4 : Int32).toNatClampNeg) < 48 then some (v0, v1, v2, v3, v4, v5, mm) else zoS (sh v0) 7 (fun le25 => Option.bind (mm.2.2 v0 3) (fun a26 => zoS (sh a26) 101 (fun le28 => if (v4 : Int32) < 0 ∨ le28 ≤ (v4 : Int32).toNatClampNeg then none else (if 57 < (mm.1 a26 (v4 : Int32).toNatClampNeg) then some (v0, v1, v2, v3, v4, v5, mm) else zoS (sh v0) 7 (fun le32 => Option.bind (mm.2.2 v0 3) (fun a33 => zoS (sh a33) 101 (fun le35 => if (v4 : Int32) < 0 ∨ le35 ≤ (v4 : Int32).toNatClampNeg then none else zoL (((10 * v5) + (mm.1 a33 (v4 : Int32).toNatClampNeg)) - 48) (fun x37 => zoL (zx_min 100000000 x37) (fun x39 => L_XReader_needNumber_37 sh fu v0 v1 v2 v3 (v4 + 1) x39 mm)))))))))))))))
set_option maxHeartbeats 4000000 in
set_option maxRecDepth 100000 in
theorem lp_XReader_needNumber_37 {p : Program} {l : Launch} {e : Env} {s : State} {m : MethodId} {args : Array Value} {below : List Frame} {meth : Method} {c : Code} {D : va_G} {tA : Nat → ClassId} {b n : Nat} {post : Option Value → zV → Nat → Prop} {sh : zSh} (F : zF p s m args meth c zb_XReader_needNumber 6 "OrreryBox$Reader" D tA b) : ∀ (fuel : Nat) (v0 : Nat) (v1 : Int32) (v2 : Int32) (v3 : Int32) (v4 : Int32) (v5 : Int32) (mm : zMem) (r : Nat × Int32 × Int32 × Int32 × Int32 × Int32 × zMem), L_XReader_needNumber_37 sh fuel v0 v1 v2 v3 v4 v5 mm = some r → (Z p l e { frames := 1, cells := 0, slots := 0, locals := 22 } s m args below meth c D b 6 (MQ below (zQ D b post) args s 0 0 (fun q => b ≤ q)) (zW tA b sh r.2.2.2.2.2.2) n 0 0 100 [(0, .ref (b + (r.1))), (1, .int (r.2.1)), (2, .int (r.2.2.1)), (3, .int (r.2.2.2.1)), (4, .int (r.2.2.2.2.1)), (5, .int (r.2.2.2.2.2.1))] []) → Z p l e { frames := 1, cells := 0, slots := 0, locals := 22 } s m args below meth c D b 6 (MQ below (zQ D b post) args s 0 0 (fun q => b ≤ q)) (zW tA b sh mm) n 0 0 37 [(0, .ref (b + v0)), (1, .int v1), (2, .int v2), (3, .int v3), (4, .int v4), (5, .int v5)] [] := by
  intro fuel
  induction fuel with
  | zero =>
    intro v0 v1 v2 v3 v4 v5 mm r h
    cases h
  | succ fu ih =>
    intro v0 v1 v2 v3 v4 v5 mm r h hx0
    rw [L_XReader_needNumber_37] at h
    refine zr_pcn 37 rfl ?_
    refine zr_iload F zd_XReader_needNumber_37 rfl ?_
    refine zr_aload_n F zd_XReader_needNumber_39 rfl ?_
    obtain ⟨le15, hs14, h⟩ := zoS_s h
    refine zr_get F 7 4 zd_XReader_needNumber_40 (zW_o hs14 (by decide)) rfl (by decide) zw_52 rfl (by rfl) ?_
    refine zr_icmp_ge F 100 zd_XReader_needNumber_43 (by decide) (fun hb16 => ?_) (fun hb16 => ?_)
    ·
      rw [if_pos hb16] at h
      obtain rfl := Option.some.inj h
      refine zr_loc (L' := [(0, .ref (b + v0)), (1, .int v1), (2, .int v2), (3, .int v3), (4, .int v4), (5, .int v5)]) ⟨rfl, rfl, rfl, rfl, rfl, rfl, trivial⟩ ?_
      exact hx0 
    ·
      rw [if_neg hb16] at h
      refine zr_aload_n F zd_XReader_needNumber_46 rfl ?_
      obtain ⟨le18, hs17, h⟩ := zoS_s h
      obtain ⟨a19, ea19, h⟩ := zoB_s h
      refine zr_get F 7 3 zd_XReader_needNumber_47 (zW_o hs17 (by decide)) rfl (by decide) zw_51 rfl (by rfl) ?_
      refine zr_tor ea19 ?_
      refine zr_iload F zd_XReader_needNumber_50 rfl ?_
      obtain ⟨le21, hs20, h⟩ := zoS_s h
      obtain ⟨hi22, h⟩ := zoI_s h
      refine zr_bald F zd_XReader_needNumber_52 (zW_a1 hs20) hi22 ?_
      refine zr_pcn 53 rfl ?_
      refine zr_bipushv (v := 48) F zd_XReader_needNumber_53 (by decide) ?_
      refine zr_icmp_lt F 100 zd_XReader_needNumber_55 (by decide) (fun hb23 => ?_) (fun hb23 => ?_)
      ·
        rw [if_pos hb23] at h
        obtain rfl := Option.some.inj h
        refine zr_loc (L' := [(0, .ref (b + v0)), (1, .int v1), (2, .int v2), (3, .int v3), (4, .int v4), (5, .int v5)]) ⟨rfl, rfl, rfl, rfl, rfl, rfl, trivial⟩ ?_
        exact hx0 
      ·
        rw [if_neg hb23] at h
        refine zr_aload_n F zd_XReader_needNumber_58 rfl ?_
        obtain ⟨le25, hs24, h⟩ := zoS_s h
        obtain ⟨a26, ea26, h⟩ := zoB_s h
        refine zr_get F 7 3 zd_XReader_needNumber_59 (zW_o hs24 (by decide)) rfl (by decide) zw_51 rfl (by rfl) ?_
        refine zr_tor ea26 ?_
        refine zr_iload F zd_XReader_needNumber_62 rfl ?_
        obtain ⟨le28, hs27, h⟩ := zoS_s h
        obtain ⟨hi29, h⟩ := zoI_s h
        refine zr_bald F zd_XReader_needNumber_64 (zW_a1 hs27) hi29 ?_
        refine zr_bipushv (v := 57) F zd_XReader_needNumber_65 (by decide) ?_
        refine zr_icmp_gt F 100 zd_XReader_needNumber_67 (by decide) (fun hb30 => ?_) (fun hb30 => ?_)
        ·
          rw [if_pos hb30] at h
          obtain rfl := Option.some.inj h
          refine zr_loc (L' := [(0, .ref (b + v0)), (1, .int v1), (2, .int v2), (3, .int v3), (4, .int v4), (5, .int v5)]) ⟨rfl, rfl, rfl, rfl, rfl, rfl, trivial⟩ ?_
          exact hx0 
        ·
          rw [if_neg hb30] at h
          refine zr_pcn 70 rfl ?_
          refine zr_ldcw F zd_XReader_needNumber_70 zw_1195 ?_
          refine zr_bipushv (v := 10) F zd_XReader_needNumber_73 (by decide) ?_
          refine zr_iload F zd_XReader_needNumber_75 rfl ?_
          refine zr_imul F zd_XReader_needNumber_77 ?_
          refine zr_aload_n F zd_XReader_needNumber_78 rfl ?_
          obtain ⟨le32, hs31, h⟩ := zoS_s h
          obtain ⟨a33, ea33, h⟩ := zoB_s h
          refine zr_get F 7 3 zd_XReader_needNumber_79 (zW_o hs31 (by decide)) rfl (by decide) zw_51 rfl (by rfl) ?_
          refine zr_tor ea33 ?_
          refine zr_iload F zd_XReader_needNumber_82 rfl ?_
          obtain ⟨le35, hs34, h⟩ := zoS_s h
          obtain ⟨hi36, h⟩ := zoI_s h
          refine zr_bald F zd_XReader_needNumber_84 (zW_a1 hs34) hi36 ?_
          refine zr_pcn 85 rfl ?_
          refine zr_iadd F zd_XReader_needNumber_85 ?_
          refine zr_bipushv (v := 48) F zd_XReader_needNumber_86 (by decide) ?_
          refine zr_isub F zd_XReader_needNumber_88 ?_
          obtain ⟨x37, ex37, h⟩ := zoL_s h
          rw [← ex37]
          refine zr_callS1 F (c_JMath_min l D tA b _ _ 100000000 x37) zd_XReader_needNumber_89 zs_XReader_284 zq_JMath_min rfl rfl ⟨(Nat.le_of_ble_eq_true rfl), (Nat.le_of_ble_eq_true rfl)⟩ (Nat.le_of_ble_eq_true rfl) ⟨(Nat.le_of_ble_eq_true rfl), (Nat.le_of_ble_eq_true rfl)⟩ ?_
          obtain ⟨x39, ex39, h⟩ := zoL_s h
          rw [← ex39]
          refine zr_istore F zd_XReader_needNumber_92 (by decide) ?_
          refine zr_iinc (v := (v4 + 1)) F zd_XReader_needNumber_94 rfl rfl (by decide) ?_
          refine zr_goto F 37 zd_XReader_needNumber_97 (by decide) ?_
          refine zr_loc (L' := [(0, .ref (b + v0)), (1, .int v1), (2, .int v2), (3, .int v3), (4, .int (v4 + 1)), (5, .int x39)]) ⟨rfl, rfl, rfl, rfl, rfl, rfl, trivial⟩ ?_
          exact ih _ _ _ _ _ _ _ _ h hx0
def F_XReader_needNumber (sh : zSh) (mm : zMem) (o : Nat) (x0_ : Int32) (x1_ : Int32) : Option (Int32 × zMem) := zoS (sh o) 7 (fun le2 => zoL (mm.1 o 5) (fun x3 => zoS (sh o) 7 (fun le5 => zoL (mI mm o 6 x3) (fun mm6 => zoS (sh o) 7 (fun le8 => Option.bind (F_XReader_sees sh mm6 o 45) (fun p9 => (if p9.1 = 0 then zoS (sh o) 7 (fun le12 => zoL ((p9.2).1 o 5) (fun x13 => Option.bind (L_XReader_needNumber_37 sh zfuel o x0_ x1_ x13 x13 0 (p9.2)) (fun q40 => (if q40.2.2.2.2.1 = q40.2.2.2.1 then zoS (sh (q40.1)) 7 (fun le84 => zoS (sh (q40.1)) 7 (fun le86 => zoL ((q40.2.2.2.2.2.2).1 (q40.1) 5) (fun x87 => none))) else zoS (sh (q40.1)) 7 (fun le43 => Option.bind (F_XReader_sees sh (q40.2.2.2.2.2.2) (q40.1) 45) (fun p44 => (if p44.1 = 0 then zoS (sh (q40.1)) 7 (fun le47 => zoS (sh (q40.1)) 7 (fun le49 => zoL (q40.2.2.2.2.1 - ((p44.2).1 (q40.1) 5)) (fun x50 => Option.bind (F_XReader_step sh (p44.2) (q40.1) x50) (fun p51 => (if q40.2.2.2.2.2.1 < q40.2.1 then zoS (sh (q40.1)) 7 (fun le54 => zoS (sh (q40.1)) 7 (fun le56 => none)) else (if q40.2.2.2.2.2.1 ≤ q40.2.2.1 then some (q40.2.2.2.2.2.1, p51) else zoS (sh (q40.1)) 7 (fun le60 => zoS (sh (q40.1)) 7 (fun le62 => none)))))))) else zoL (-q40.2.2.2.2.2.1) (fun x64 => zoS (sh (q40.1)) 7 (fun le66 => zoS (sh (q40.1)) 7 (fun le68 => zoL (q40.2.2.2.2.1 - ((p44.2).1 (q40.1) 5)) (fun x69 => Option.bind (F_XReader_step sh (p44.2) (q40.1) x69) (fun p70 => (if x64 < q40.2.1 then zoS (sh (q40.1)) 7 (fun le73 => zoS (sh (q40.1)) 7 (fun le75 => none)) else (if x64 ≤ q40.2.2.1 then some (x64, p70) else zoS (sh (q40.1)) 7 (fun le79 => zoS (sh (q40.1)) 7 (fun le81 => none)))))))))))))))) else zoS (sh o) 7 (fun le90 => zoL (((p9.2).1 o 5) + 1) (fun x91 => Option.bind (L_XReader_needNumber_37 sh zfuel o x0_ x1_ x91 x91 0 (p9.2)) (fun q92 => (if q92.2.2.2.2.1 = q92.2.2.2.1 then zoS (sh (q92.1)) 7 (fun le136 => zoS (sh (q92.1)) 7 (fun le138 => zoL ((q92.2.2.2.2.2.2).1 (q92.1) 5) (fun x139 => none))) else zoS (sh (q92.1)) 7 (fun le95 => Option.bind (F_XReader_sees sh (q92.2.2.2.2.2.2) (q92.1) 45) (fun p96 => (if p96.1 = 0 then zoS (sh (q92.1)) 7 (fun le99 => zoS (sh (q92.1)) 7 (fun le101 => zoL (q92.2.2.2.2.1 - ((p96.2).1 (q92.1) 5)) (fun x102 => Option.bind (F_XReader_step sh (p96.2) (q92.1) x102) (fun p103 => (if q92.2.2.2.2.2.1 < q92.2.1 then zoS (sh (q92.1)) 7 (fun le106 => zoS (sh (q92.1)) 7 (fun le108 => none)) else (if q92.2.2.2.2.2.1 ≤ q92.2.2.1 then some (q92.2.2.2.2.2.1, p103) else zoS (sh (q92.1)) 7 (fun le112 => zoS (sh (q92.1)) 7 (fun le114 => none)))))))) else zoL (-q92.2.2.2.2.2.1) (fun x116 => zoS (sh (q92.1)) 7 (fun le118 => zoS (sh (q92.1)) 7 (fun le120 => zoL (q92.2.2.2.2.1 - ((p96.2).1 (q92.1) 5)) (fun x121 => Option.bind (F_XReader_step sh (p96.2) (q92.1) x121) (fun p122 => (if x116 < q92.2.1 then zoS (sh (q92.1)) 7 (fun le125 => zoS (sh (q92.1)) 7 (fun le127 => none)) else (if x116 ≤ q92.2.2.1 then some (x116, p122) else zoS (sh (q92.1)) 7 (fun le131 => zoS (sh (q92.1)) 7 (fun le133 => none)))))))))))))))))))))))
set_option maxHeartbeats 4000000 in
set_option maxRecDepth 100000 in
theorem k_XReader_needNumber (l : Launch) (D : va_G) (tA : Nat → ClassId) (b : Nat) (sh : zSh) (n : Nat) {mm : zMem} {o : Nat} {x0_ : Int32} {x1_ : Int32} {r : (Int32 × zMem)} (h : F_XReader_needNumber sh mm o x0_ x1_ = some r) : zM l D tA b zy_XReader_needNumber zb_XReader_needNumber 6 (some .int) 1 22 0 0 [.ref (b + o), .int x0_, .int x1_] (zW tA b sh mm) n (zE (some (.int (r.1))) (zW tA b sh r.2) n) := by
  unfold F_XReader_needNumber at h
  refine zM_of (own := "OrreryBox$Reader") (plainFor_of_name (by decide)) rfl (Nat.le_of_ble_eq_true rfl) (fun p e s m below meth c F hr hin hH => ?_)
  refine zr_aload_n F zd_XReader_needNumber_0 rfl ?_
  refine zr_aload_n F zd_XReader_needNumber_1 rfl ?_
  obtain ⟨le2, hs1, h⟩ := zoS_s h
  refine zr_get F 7 5 zd_XReader_needNumber_2 (zW_o hs1 (by decide)) rfl (by decide) zw_53 rfl (by rfl) ?_
  obtain ⟨x3, ex3, h⟩ := zoL_s h
  rw [← ex3]
  obtain ⟨le5, hs4, h⟩ := zoS_s h
  refine zr_put F 7 6 zd_XReader_needNumber_5 (zW_o hs4 (by decide)) rfl (by decide) zw_54 rfl rfl rfl rfl (by exact (Nat.le_of_ble_eq_true rfl)) ?_
  obtain ⟨mm6, emm6, h⟩ := zoL_s h
  refine zr_norm (zW tA b sh mm6) _ (by rw [emm6]; exact zW_pI (v := x3) hs4 (by decide) (zf_I_7_6 b _ _ _)) rfl ?_
  refine zr_aload_n F zd_XReader_needNumber_8 rfl ?_
  refine zr_bipushv (v := 45) F zd_XReader_needNumber_9 (by decide) ?_
  obtain ⟨le8, hs7, h⟩ := zoS_s h
  obtain ⟨p9, ep9, h⟩ := zoB_s h
  refine zr_callV1 F (k_XReader_sees l D tA b sh _ ep9) zd_XReader_needNumber_11 (zW_o hs7 (by decide)) rfl zs_XReader_49 rfl zq_XReader_sees rfl rfl ⟨(Nat.le_of_ble_eq_true rfl), (Nat.le_of_ble_eq_true rfl)⟩ (Nat.le_of_ble_eq_true rfl) ⟨(Nat.le_of_ble_eq_true rfl), (Nat.le_of_ble_eq_true rfl)⟩ ?_
  refine zr_pcn 14 rfl ?_
  refine zr_if_eq F 26 zd_XReader_needNumber_14 (by decide) (fun hb10 => ?_) (fun hb10 => ?_)
  ·
    rw [if_pos hb10] at h
    refine zr_aload_n F zd_XReader_needNumber_26 rfl ?_
    obtain ⟨le12, hs11, h⟩ := zoS_s h
    refine zr_get F 7 5 zd_XReader_needNumber_27 (zW_o hs11 (by decide)) rfl (by decide) zw_53 rfl (by rfl) ?_
    obtain ⟨x13, ex13, h⟩ := zoL_s h
    rw [← ex13]
    refine zr_istore_n F zd_XReader_needNumber_30 (by decide) ?_
    refine zr_iload_n F zd_XReader_needNumber_31 rfl ?_
    refine zr_istore F zd_XReader_needNumber_32 (by decide) ?_
    refine zr_iconstv (v := 0) F zd_XReader_needNumber_34 (by decide) ?_
    refine zr_istore F zd_XReader_needNumber_35 (by decide) ?_
    obtain ⟨q40, eq40, h⟩ := zoB_s h
    refine zr_loc (L' := [(0, .ref (b + o)), (1, .int x0_), (2, .int x1_), (3, .int x13), (4, .int x13), (5, .int 0)]) ⟨rfl, rfl, rfl, rfl, rfl, rfl, trivial⟩ ?_
    refine lp_XReader_needNumber_37 F _ _ _ _ _ _ _ _ _ eq40 ?_
    ·
      refine zr_iload F zd_XReader_needNumber_100 rfl ?_
      refine zr_pcn 102 rfl ?_
      refine zr_iload_n F zd_XReader_needNumber_102 rfl ?_
      refine zr_icmp_ne F 115 zd_XReader_needNumber_103 (by decide) (fun hb41 => ?_) (fun hb41 => ?_)
      ·
        rw [if_neg hb41] at h
        refine zr_aload_n F zd_XReader_needNumber_115 rfl ?_
        refine zr_bipushv (v := 45) F zd_XReader_needNumber_116 (by decide) ?_
        obtain ⟨le43, hs42, h⟩ := zoS_s h
        obtain ⟨p44, ep44, h⟩ := zoB_s h
        refine zr_callV1 F (k_XReader_sees l D tA b sh _ ep44) zd_XReader_needNumber_118 (zW_o hs42 (by decide)) rfl zs_XReader_49 rfl zq_XReader_sees rfl rfl ⟨(Nat.le_of_ble_eq_true rfl), (Nat.le_of_ble_eq_true rfl)⟩ (Nat.le_of_ble_eq_true rfl) ⟨(Nat.le_of_ble_eq_true rfl), (Nat.le_of_ble_eq_true rfl)⟩ ?_
        refine zr_if_eq F 130 zd_XReader_needNumber_121 (by decide) (fun hb45 => ?_) (fun hb45 => ?_)
        ·
          rw [if_pos hb45] at h
          refine zr_iload F zd_XReader_needNumber_130 rfl ?_
          refine zr_istore F zd_XReader_needNumber_132 (by decide) ?_
          refine zr_pcn 134 rfl ?_
          refine zr_aload_n F zd_XReader_needNumber_134 rfl ?_
          refine zr_iload F zd_XReader_needNumber_135 rfl ?_
          refine zr_aload_n F zd_XReader_needNumber_137 rfl ?_
          obtain ⟨le47, hs46, h⟩ := zoS_s h
          refine zr_get F 7 5 zd_XReader_needNumber_138 (zW_o hs46 (by decide)) rfl (by decide) zw_53 rfl (by rfl) ?_
          refine zr_isub F zd_XReader_needNumber_141 ?_
          obtain ⟨le49, hs48, h⟩ := zoS_s h
          obtain ⟨x50, ex50, h⟩ := zoL_s h
          rw [← ex50]
          obtain ⟨p51, ep51, h⟩ := zoB_s h
          refine zr_callV0 F (k_XReader_step l D tA b sh _ ep51) zd_XReader_needNumber_142 (zW_o hs48 (by decide)) rfl zs_XReader_41 rfl zq_XReader_step rfl rfl ⟨(Nat.le_of_ble_eq_true rfl), (Nat.le_of_ble_eq_true rfl)⟩ (Nat.le_of_ble_eq_true rfl) ⟨(Nat.le_of_ble_eq_true rfl), (Nat.le_of_ble_eq_true rfl)⟩ ?_
          refine zr_iload F zd_XReader_needNumber_145 rfl ?_
          refine zr_iload_n F zd_XReader_needNumber_147 rfl ?_
          refine zr_pcn 148 rfl ?_
          refine zr_icmp_lt F 157 zd_XReader_needNumber_148 (by decide) (fun hb52 => ?_) (fun hb52 => ?_)
          ·
            rw [if_pos hb52] at h
            refine zr_aload_n F zd_XReader_needNumber_157 rfl ?_
            refine zr_iconstv (v := 2) F zd_XReader_needNumber_158 (by decide) ?_
            refine zr_aload_n F zd_XReader_needNumber_159 rfl ?_
            obtain ⟨le54, hs53, h⟩ := zoS_s h
            refine zr_get F 7 6 zd_XReader_needNumber_160 (zW_o hs53 (by decide)) rfl (by decide) zw_54 rfl (by rfl) ?_
            obtain ⟨le56, hs55, h⟩ := zoS_s h
            cases h
          ·
            rw [if_neg hb52] at h
            refine zr_iload F zd_XReader_needNumber_151 rfl ?_
            refine zr_iload_n F zd_XReader_needNumber_153 rfl ?_
            refine zr_pcn 154 rfl ?_
            refine zr_icmp_le F 166 zd_XReader_needNumber_154 (by decide) (fun hb58 => ?_) (fun hb58 => ?_)
            ·
              rw [if_pos hb58] at h
              refine zr_iload F zd_XReader_needNumber_166 rfl ?_
              obtain rfl := Option.some.inj h
              exact zr_iret F hr zd_XReader_needNumber_168 (Nat.le_of_ble_eq_true rfl) (Nat.le_of_ble_eq_true rfl) ⟨rfl, rfl, rfl⟩
            ·
              rw [if_neg hb58] at h
              refine zr_aload_n F zd_XReader_needNumber_157 rfl ?_
              refine zr_iconstv (v := 2) F zd_XReader_needNumber_158 (by decide) ?_
              refine zr_aload_n F zd_XReader_needNumber_159 rfl ?_
              obtain ⟨le60, hs59, h⟩ := zoS_s h
              refine zr_get F 7 6 zd_XReader_needNumber_160 (zW_o hs59 (by decide)) rfl (by decide) zw_54 rfl (by rfl) ?_
              obtain ⟨le62, hs61, h⟩ := zoS_s h
              cases h
        ·
          rw [if_neg hb45] at h
          refine zr_pcn 124 rfl ?_
          refine zr_iload F zd_XReader_needNumber_124 rfl ?_
          refine zr_ineg F zd_XReader_needNumber_126 ?_
          refine zr_goto F 132 zd_XReader_needNumber_127 (by decide) ?_
          obtain ⟨x64, ex64, h⟩ := zoL_s h
          rw [← ex64]
          refine zr_istore F zd_XReader_needNumber_132 (by decide) ?_
          refine zr_aload_n F zd_XReader_needNumber_134 rfl ?_
          refine zr_iload F zd_XReader_needNumber_135 rfl ?_
          refine zr_aload_n F zd_XReader_needNumber_137 rfl ?_
          obtain ⟨le66, hs65, h⟩ := zoS_s h
          refine zr_get F 7 5 zd_XReader_needNumber_138 (zW_o hs65 (by decide)) rfl (by decide) zw_53 rfl (by rfl) ?_
          refine zr_pcn 141 rfl ?_
          refine zr_isub F zd_XReader_needNumber_141 ?_
          obtain ⟨le68, hs67, h⟩ := zoS_s h
          obtain ⟨x69, ex69, h⟩ := zoL_s h
          rw [← ex69]
          obtain ⟨p70, ep70, h⟩ := zoB_s h
          refine zr_callV0 F (k_XReader_step l D tA b sh _ ep70) zd_XReader_needNumber_142 (zW_o hs67 (by decide)) rfl zs_XReader_41 rfl zq_XReader_step rfl rfl ⟨(Nat.le_of_ble_eq_true rfl), (Nat.le_of_ble_eq_true rfl)⟩ (Nat.le_of_ble_eq_true rfl) ⟨(Nat.le_of_ble_eq_true rfl), (Nat.le_of_ble_eq_true rfl)⟩ ?_
          refine zr_iload F zd_XReader_needNumber_145 rfl ?_
          refine zr_iload_n F zd_XReader_needNumber_147 rfl ?_
          refine zr_icmp_lt F 157 zd_XReader_needNumber_148 (by decide) (fun hb71 => ?_) (fun hb71 => ?_)
          ·
            rw [if_pos hb71] at h
            refine zr_aload_n F zd_XReader_needNumber_157 rfl ?_
            refine zr_iconstv (v := 2) F zd_XReader_needNumber_158 (by decide) ?_
            refine zr_aload_n F zd_XReader_needNumber_159 rfl ?_
            refine zr_pcn 160 rfl ?_
            obtain ⟨le73, hs72, h⟩ := zoS_s h
            refine zr_get F 7 6 zd_XReader_needNumber_160 (zW_o hs72 (by decide)) rfl (by decide) zw_54 rfl (by rfl) ?_
            obtain ⟨le75, hs74, h⟩ := zoS_s h
            cases h
          ·
            rw [if_neg hb71] at h
            refine zr_iload F zd_XReader_needNumber_151 rfl ?_
            refine zr_iload_n F zd_XReader_needNumber_153 rfl ?_
            refine zr_icmp_le F 166 zd_XReader_needNumber_154 (by decide) (fun hb77 => ?_) (fun hb77 => ?_)
            ·
              rw [if_pos hb77] at h
              refine zr_iload F zd_XReader_needNumber_166 rfl ?_
              obtain rfl := Option.some.inj h
              exact zr_iret F hr zd_XReader_needNumber_168 (Nat.le_of_ble_eq_true rfl) (Nat.le_of_ble_eq_true rfl) ⟨rfl, rfl, rfl⟩
            ·
              rw [if_neg hb77] at h
              refine zr_aload_n F zd_XReader_needNumber_157 rfl ?_
              refine zr_pcn 158 rfl ?_
              refine zr_iconstv (v := 2) F zd_XReader_needNumber_158 (by decide) ?_
              refine zr_aload_n F zd_XReader_needNumber_159 rfl ?_
              obtain ⟨le79, hs78, h⟩ := zoS_s h
              refine zr_get F 7 6 zd_XReader_needNumber_160 (zW_o hs78 (by decide)) rfl (by decide) zw_54 rfl (by rfl) ?_
              obtain ⟨le81, hs80, h⟩ := zoS_s h
              cases h
      ·
        rw [if_pos hb41] at h
        refine zr_aload_n F zd_XReader_needNumber_106 rfl ?_
        refine zr_iconstv (v := 1) F zd_XReader_needNumber_107 (by decide) ?_
        refine zr_aload_n F zd_XReader_needNumber_108 rfl ?_
        obtain ⟨le84, hs83, h⟩ := zoS_s h
        refine zr_get F 7 5 zd_XReader_needNumber_109 (zW_o hs83 (by decide)) rfl (by decide) zw_53 rfl (by rfl) ?_
        refine zr_pcn 112 rfl ?_
        obtain ⟨le86, hs85, h⟩ := zoS_s h
        obtain ⟨x87, ex87, h⟩ := zoL_s h
        rw [← ex87]
        cases h
  ·
    rw [if_neg hb10] at h
    refine zr_aload_n F zd_XReader_needNumber_17 rfl ?_
    obtain ⟨le90, hs89, h⟩ := zoS_s h
    refine zr_get F 7 5 zd_XReader_needNumber_18 (zW_o hs89 (by decide)) rfl (by decide) zw_53 rfl (by rfl) ?_
    refine zr_iconstv (v := 1) F zd_XReader_needNumber_21 (by decide) ?_
    refine zr_iadd F zd_XReader_needNumber_22 ?_
    refine zr_goto F 30 zd_XReader_needNumber_23 (by decide) ?_
    obtain ⟨x91, ex91, h⟩ := zoL_s h
    rw [← ex91]
    refine zr_istore_n F zd_XReader_needNumber_30 (by decide) ?_
    refine zr_iload_n F zd_XReader_needNumber_31 rfl ?_
    refine zr_pcn 32 rfl ?_
    refine zr_istore F zd_XReader_needNumber_32 (by decide) ?_
    refine zr_iconstv (v := 0) F zd_XReader_needNumber_34 (by decide) ?_
    refine zr_istore F zd_XReader_needNumber_35 (by decide) ?_
    obtain ⟨q92, eq92, h⟩ := zoB_s h
    refine zr_loc (L' := [(0, .ref (b + o)), (1, .int x0_), (2, .int x1_), (3, .int x91), (4, .int x91), (5, .int 0)]) ⟨rfl, rfl, rfl, rfl, rfl, rfl, trivial⟩ ?_
    refine lp_XReader_needNumber_37 F _ _ _ _ _ _ _ _ _ eq92 ?_
    ·
      refine zr_iload F zd_XReader_needNumber_100 rfl ?_
      refine zr_iload_n F zd_XReader_needNumber_102 rfl ?_
      refine zr_icmp_ne F 115 zd_XReader_needNumber_103 (by decide) (fun hb93 => ?_) (fun hb93 => ?_)
      ·
        rw [if_neg hb93] at h
        refine zr_aload_n F zd_XReader_needNumber_115 rfl ?_
        refine zr_bipushv (v := 45) F zd_XReader_needNumber_116 (by decide) ?_
        refine zr_pcn 118 rfl ?_
        obtain ⟨le95, hs94, h⟩ := zoS_s h
        obtain ⟨p96, ep96, h⟩ := zoB_s h
        refine zr_callV1 F (k_XReader_sees l D tA b sh _ ep96) zd_XReader_needNumber_118 (zW_o hs94 (by decide)) rfl zs_XReader_49 rfl zq_XReader_sees rfl rfl ⟨(Nat.le_of_ble_eq_true rfl), (Nat.le_of_ble_eq_true rfl)⟩ (Nat.le_of_ble_eq_true rfl) ⟨(Nat.le_of_ble_eq_true rfl), (Nat.le_of_ble_eq_true rfl)⟩ ?_
        refine zr_if_eq F 130 zd_XReader_needNumber_121 (by decide) (fun hb97 => ?_) (fun hb97 => ?_)
        ·
          rw [if_pos hb97] at h
          refine zr_iload F zd_XReader_needNumber_130 rfl ?_
          refine zr_istore F zd_XReader_needNumber_132 (by decide) ?_
          refine zr_aload_n F zd_XReader_needNumber_134 rfl ?_
          refine zr_iload F zd_XReader_needNumber_135 rfl ?_
          refine zr_aload_n F zd_XReader_needNumber_137 rfl ?_
          obtain ⟨le99, hs98, h⟩ := zoS_s h
          refine zr_get F 7 5 zd_XReader_needNumber_138 (zW_o hs98 (by decide)) rfl (by decide) zw_53 rfl (by rfl) ?_
          refine zr_pcn 141 rfl ?_
          refine zr_isub F zd_XReader_needNumber_141 ?_
          obtain ⟨le101, hs100, h⟩ := zoS_s h
          obtain ⟨x102, ex102, h⟩ := zoL_s h
          rw [← ex102]
          obtain ⟨p103, ep103, h⟩ := zoB_s h
          refine zr_callV0 F (k_XReader_step l D tA b sh _ ep103) zd_XReader_needNumber_142 (zW_o hs100 (by decide)) rfl zs_XReader_41 rfl zq_XReader_step rfl rfl ⟨(Nat.le_of_ble_eq_true rfl), (Nat.le_of_ble_eq_true rfl)⟩ (Nat.le_of_ble_eq_true rfl) ⟨(Nat.le_of_ble_eq_true rfl), (Nat.le_of_ble_eq_true rfl)⟩ ?_
          refine zr_iload F zd_XReader_needNumber_145 rfl ?_
          refine zr_iload_n F zd_XReader_needNumber_147 rfl ?_
          refine zr_icmp_lt F 157 zd_XReader_needNumber_148 (by decide) (fun hb104 => ?_) (fun hb104 => ?_)
          ·
            rw [if_pos hb104] at h
            refine zr_aload_n F zd_XReader_needNumber_157 rfl ?_
            refine zr_iconstv (v := 2) F zd_XReader_needNumber_158 (by decide) ?_
            refine zr_aload_n F zd_XReader_needNumber_159 rfl ?_
            refine zr_pcn 160 rfl ?_
            obtain ⟨le106, hs105, h⟩ := zoS_s h
            refine zr_get F 7 6 zd_XReader_needNumber_160 (zW_o hs105 (by decide)) rfl (by decide) zw_54 rfl (by rfl) ?_
            obtain ⟨le108, hs107, h⟩ := zoS_s h
            cases h
          ·
            rw [if_neg hb104] at h
            refine zr_iload F zd_XReader_needNumber_151 rfl ?_
            refine zr_iload_n F zd_XReader_needNumber_153 rfl ?_
            refine zr_icmp_le F 166 zd_XReader_needNumber_154 (by decide) (fun hb110 => ?_) (fun hb110 => ?_)
            ·
              rw [if_pos hb110] at h
              refine zr_iload F zd_XReader_needNumber_166 rfl ?_
              obtain rfl := Option.some.inj h
              exact zr_iret F hr zd_XReader_needNumber_168 (Nat.le_of_ble_eq_true rfl) (Nat.le_of_ble_eq_true rfl) ⟨rfl, rfl, rfl⟩
            ·
              rw [if_neg hb110] at h
              refine zr_aload_n F zd_XReader_needNumber_157 rfl ?_
              refine zr_pcn 158 rfl ?_
              refine zr_iconstv (v := 2) F zd_XReader_needNumber_158 (by decide) ?_
              refine zr_aload_n F zd_XReader_needNumber_159 rfl ?_
              obtain ⟨le112, hs111, h⟩ := zoS_s h
              refine zr_get F 7 6 zd_XReader_needNumber_160 (zW_o hs111 (by decide)) rfl (by decide) zw_54 rfl (by rfl) ?_
              obtain ⟨le114, hs113, h⟩ := zoS_s h
              cases h
        ·
          rw [if_neg hb97] at h
          refine zr_iload F zd_XReader_needNumber_124 rfl ?_
          refine zr_ineg F zd_XReader_needNumber_126 ?_
          refine zr_goto F 132 zd_XReader_needNumber_127 (by decide) ?_
          obtain ⟨x116, ex116, h⟩ := zoL_s h
          rw [← ex116]
          refine zr_istore F zd_XReader_needNumber_132 (by decide) ?_
          refine zr_pcn 134 rfl ?_
          refine zr_aload_n F zd_XReader_needNumber_134 rfl ?_
          refine zr_iload F zd_XReader_needNumber_135 rfl ?_
          refine zr_aload_n F zd_XReader_needNumber_137 rfl ?_
          obtain ⟨le118, hs117, h⟩ := zoS_s h
          refine zr_get F 7 5 zd_XReader_needNumber_138 (zW_o hs117 (by decide)) rfl (by decide) zw_53 rfl (by rfl) ?_
          refine zr_isub F zd_XReader_needNumber_141 ?_
          obtain ⟨le120, hs119, h⟩ := zoS_s h
          obtain ⟨x121, ex121, h⟩ := zoL_s h
          rw [← ex121]
          obtain ⟨p122, ep122, h⟩ := zoB_s h
          refine zr_callV0 F (k_XReader_step l D tA b sh _ ep122) zd_XReader_needNumber_142 (zW_o hs119 (by decide)) rfl zs_XReader_41 rfl zq_XReader_step rfl rfl ⟨(Nat.le_of_ble_eq_true rfl), (Nat.le_of_ble_eq_true rfl)⟩ (Nat.le_of_ble_eq_true rfl) ⟨(Nat.le_of_ble_eq_true rfl), (Nat.le_of_ble_eq_true rfl)⟩ ?_
          refine zr_iload F zd_XReader_needNumber_145 rfl ?_
          refine zr_iload_n F zd_XReader_needNumber_147 rfl ?_
          refine zr_pcn 148 rfl ?_
          refine zr_icmp_lt F 157 zd_XReader_needNumber_148 (by decide) (fun hb123 => ?_) (fun hb123 => ?_)
          ·
            rw [if_pos hb123] at h
            refine zr_aload_n F zd_XReader_needNumber_157 rfl ?_
            refine zr_iconstv (v := 2) F zd_XReader_needNumber_158 (by decide) ?_
            refine zr_aload_n F zd_XReader_needNumber_159 rfl ?_
            obtain ⟨le125, hs124, h⟩ := zoS_s h
            refine zr_get F 7 6 zd_XReader_needNumber_160 (zW_o hs124 (by decide)) rfl (by decide) zw_54 rfl (by rfl) ?_
            obtain ⟨le127, hs126, h⟩ := zoS_s h
            cases h
          ·
            rw [if_neg hb123] at h
            refine zr_iload F zd_XReader_needNumber_151 rfl ?_
            refine zr_iload_n F zd_XReader_needNumber_153 rfl ?_
            refine zr_pcn 154 rfl ?_
            refine zr_icmp_le F 166 zd_XReader_needNumber_154 (by decide) (fun hb129 => ?_) (fun hb129 => ?_)
            ·
              rw [if_pos hb129] at h
              refine zr_iload F zd_XReader_needNumber_166 rfl ?_
              obtain rfl := Option.some.inj h
              exact zr_iret F hr zd_XReader_needNumber_168 (Nat.le_of_ble_eq_true rfl) (Nat.le_of_ble_eq_true rfl) ⟨rfl, rfl, rfl⟩
            ·
              rw [if_neg hb129] at h
              refine zr_aload_n F zd_XReader_needNumber_157 rfl ?_
              refine zr_iconstv (v := 2) F zd_XReader_needNumber_158 (by decide) ?_
              refine zr_aload_n F zd_XReader_needNumber_159 rfl ?_
              obtain ⟨le131, hs130, h⟩ := zoS_s h
              refine zr_get F 7 6 zd_XReader_needNumber_160 (zW_o hs130 (by decide)) rfl (by decide) zw_54 rfl (by rfl) ?_
              obtain ⟨le133, hs132, h⟩ := zoS_s h
              cases h
      ·
        rw [if_pos hb93] at h
        refine zr_pcn 106 rfl ?_
        refine zr_aload_n F zd_XReader_needNumber_106 rfl ?_
        refine zr_iconstv (v := 1) F zd_XReader_needNumber_107 (by decide) ?_
        refine zr_aload_n F zd_XReader_needNumber_108 rfl ?_
        obtain ⟨le136, hs135, h⟩ := zoS_s h
        refine zr_get F 7 5 zd_XReader_needNumber_109 (zW_o hs135 (by decide)) rfl (by decide) zw_53 rfl (by rfl) ?_
        obtain ⟨le138, hs137, h⟩ := zoS_s h
        obtain ⟨x139, ex139, h⟩ := zoL_s h
        rw [← ex139]
        cases h
def L_T_XReader_needNumber_37 (sh : zSh) (fuel : Nat) (v0 : Nat) (v1 : Int32) (v2 : Int32) (v3 : Int32) (v4 : Int32) (v5 : Int32) (mm : zMem) : Option (Nat × Int32 × Int32 × Int32 × Int32 × Int32 × zMem) := match fuel with
  | 0 => none
  | fu + 1 => zoS (sh v0) 7 (fun le15 => (if (mm.1 v0 4) ≤ v4 then some (v0, v1, v2, v3, v4, v5, mm) else zoS (sh v0) 7 (fun le18 => Option.bind (mm.2.2 v0 3) (fun a19 => zoS (sh a19) 101 (fun le21 => if (v4 : Int32) < 0 ∨ le21 ≤ (v4 : Int32).toNatClampNeg then none else (if (mm.1 a19 (v4 : Int32).toNatClampNeg) < 48 then some (v0, v1, v2, v3, v4, v5, mm) else zoS (sh v0) 7 (fun le25 => Option.bind (mm.2.2 v0 3) (fun a26 => zoS (sh a26) 101 (fun le28 => if (v4 : Int32) < 0 ∨ le28 ≤ (v4 : Int32).toNatClampNeg then none else (if 57 < (mm.1 a26 (v4 : Int32).toNatClampNeg) then some (v0, v1, v2, v3, v4, v5, mm) else zoS (sh v0) 7 (fun le32 => Option.bind (mm.2.2 v0 3) (fun a33 => zoS (sh a33) 101 (fun le35 => if (v4 : Int32) < 0 ∨ le35 ≤ (v4 : Int32).toNatClampNeg then none else zoL (((10 * v5) + (mm.1 a33 (v4 : Int32).toNatClampNeg)) - 48) (fun x37 => zoL (zx_min 100000000 x37) (fun x39 => L_T_XReader_needNumber_37 sh fu v0 v1 v2 v3 (v4 + 1) x39 mm)))))))))))))))
set_option maxHeartbeats 4000000 in
set_option maxRecDepth 100000 in
theorem lp_T_XReader_needNumber_37 {p : Program} {l : Launch} {e : Env} {s : State} {m : MethodId} {args : Array Value} {below : List Frame} {meth : Method} {c : Code} {D : va_G} {tA : Nat → ClassId} {b n : Nat} {cls : String} {fT : zV} {nT : Nat} {sh : zSh} (F : zF p s m args meth c zb_XReader_needNumber 6 "OrreryBox$Reader" D tA b) (hl : l.stackTraces = false) (hno : c.exceptionTable.toList = []) : ∀ (fuel : Nat) (v0 : Nat) (v1 : Int32) (v2 : Int32) (v3 : Int32) (v4 : Int32) (v5 : Int32) (mm : zMem) (r : Nat × Int32 × Int32 × Int32 × Int32 × Int32 × zMem), L_T_XReader_needNumber_37 sh fuel v0 v1 v2 v3 v4 v5 mm = some r → (Z p l e { frames := 7, cells := 1, slots := 6, locals := 112 } s m args below meth c D b 6 (zTQ below D b cls fT nT args s 1 6) (zW tA b sh r.2.2.2.2.2.2) n 0 0 100 [(0, .ref (b + (r.1))), (1, .int (r.2.1)), (2, .int (r.2.2.1)), (3, .int (r.2.2.2.1)), (4, .int (r.2.2.2.2.1)), (5, .int (r.2.2.2.2.2.1))] []) → Z p l e { frames := 7, cells := 1, slots := 6, locals := 112 } s m args below meth c D b 6 (zTQ below D b cls fT nT args s 1 6) (zW tA b sh mm) n 0 0 37 [(0, .ref (b + v0)), (1, .int v1), (2, .int v2), (3, .int v3), (4, .int v4), (5, .int v5)] [] := by
  intro fuel
  induction fuel with
  | zero =>
    intro v0 v1 v2 v3 v4 v5 mm r h
    cases h
  | succ fu ih =>
    intro v0 v1 v2 v3 v4 v5 mm r h hx0
    rw [L_T_XReader_needNumber_37] at h
    refine zr_pcn 37 rfl ?_
    refine zr_iload F zd_XReader_needNumber_37 rfl ?_
    refine zr_aload_n F zd_XReader_needNumber_39 rfl ?_
    obtain ⟨le15, hs14, h⟩ := zoS_s h
    refine zr_get F 7 4 zd_XReader_needNumber_40 (zW_o hs14 (by decide)) rfl (by decide) zw_52 rfl (by rfl) ?_
    refine zr_icmp_ge F 100 zd_XReader_needNumber_43 (by decide) (fun hb16 => ?_) (fun hb16 => ?_)
    ·
      rw [if_pos hb16] at h
      obtain rfl := Option.some.inj h
      refine zr_loc (L' := [(0, .ref (b + v0)), (1, .int v1), (2, .int v2), (3, .int v3), (4, .int v4), (5, .int v5)]) ⟨rfl, rfl, rfl, rfl, rfl, rfl, trivial⟩ ?_
      exact hx0 
    ·
      rw [if_neg hb16] at h
      refine zr_aload_n F zd_XReader_needNumber_46 rfl ?_
      obtain ⟨le18, hs17, h⟩ := zoS_s h
      obtain ⟨a19, ea19, h⟩ := zoB_s h
      refine zr_get F 7 3 zd_XReader_needNumber_47 (zW_o hs17 (by decide)) rfl (by decide) zw_51 rfl (by rfl) ?_
      refine zr_tor ea19 ?_
      refine zr_iload F zd_XReader_needNumber_50 rfl ?_
      obtain ⟨le21, hs20, h⟩ := zoS_s h
      obtain ⟨hi22, h⟩ := zoI_s h
      refine zr_bald F zd_XReader_needNumber_52 (zW_a1 hs20) hi22 ?_
      refine zr_pcn 53 rfl ?_
      refine zr_bipushv (v := 48) F zd_XReader_needNumber_53 (by decide) ?_
      refine zr_icmp_lt F 100 zd_XReader_needNumber_55 (by decide) (fun hb23 => ?_) (fun hb23 => ?_)
      ·
        rw [if_pos hb23] at h
        obtain rfl := Option.some.inj h
        refine zr_loc (L' := [(0, .ref (b + v0)), (1, .int v1), (2, .int v2), (3, .int v3), (4, .int v4), (5, .int v5)]) ⟨rfl, rfl, rfl, rfl, rfl, rfl, trivial⟩ ?_
        exact hx0 
      ·
        rw [if_neg hb23] at h
        refine zr_aload_n F zd_XReader_needNumber_58 rfl ?_
        obtain ⟨le25, hs24, h⟩ := zoS_s h
        obtain ⟨a26, ea26, h⟩ := zoB_s h
        refine zr_get F 7 3 zd_XReader_needNumber_59 (zW_o hs24 (by decide)) rfl (by decide) zw_51 rfl (by rfl) ?_
        refine zr_tor ea26 ?_
        refine zr_iload F zd_XReader_needNumber_62 rfl ?_
        obtain ⟨le28, hs27, h⟩ := zoS_s h
        obtain ⟨hi29, h⟩ := zoI_s h
        refine zr_bald F zd_XReader_needNumber_64 (zW_a1 hs27) hi29 ?_
        refine zr_bipushv (v := 57) F zd_XReader_needNumber_65 (by decide) ?_
        refine zr_icmp_gt F 100 zd_XReader_needNumber_67 (by decide) (fun hb30 => ?_) (fun hb30 => ?_)
        ·
          rw [if_pos hb30] at h
          obtain rfl := Option.some.inj h
          refine zr_loc (L' := [(0, .ref (b + v0)), (1, .int v1), (2, .int v2), (3, .int v3), (4, .int v4), (5, .int v5)]) ⟨rfl, rfl, rfl, rfl, rfl, rfl, trivial⟩ ?_
          exact hx0 
        ·
          rw [if_neg hb30] at h
          refine zr_pcn 70 rfl ?_
          refine zr_ldcw F zd_XReader_needNumber_70 zw_1195 ?_
          refine zr_bipushv (v := 10) F zd_XReader_needNumber_73 (by decide) ?_
          refine zr_iload F zd_XReader_needNumber_75 rfl ?_
          refine zr_imul F zd_XReader_needNumber_77 ?_
          refine zr_aload_n F zd_XReader_needNumber_78 rfl ?_
          obtain ⟨le32, hs31, h⟩ := zoS_s h
          obtain ⟨a33, ea33, h⟩ := zoB_s h
          refine zr_get F 7 3 zd_XReader_needNumber_79 (zW_o hs31 (by decide)) rfl (by decide) zw_51 rfl (by rfl) ?_
          refine zr_tor ea33 ?_
          refine zr_iload F zd_XReader_needNumber_82 rfl ?_
          obtain ⟨le35, hs34, h⟩ := zoS_s h
          obtain ⟨hi36, h⟩ := zoI_s h
          refine zr_bald F zd_XReader_needNumber_84 (zW_a1 hs34) hi36 ?_
          refine zr_pcn 85 rfl ?_
          refine zr_iadd F zd_XReader_needNumber_85 ?_
          refine zr_bipushv (v := 48) F zd_XReader_needNumber_86 (by decide) ?_
          refine zr_isub F zd_XReader_needNumber_88 ?_
          obtain ⟨x37, ex37, h⟩ := zoL_s h
          rw [← ex37]
          refine zr_callS1 F (c_JMath_min l D tA b _ _ 100000000 x37) zd_XReader_needNumber_89 zs_XReader_284 zq_JMath_min rfl rfl ⟨(Nat.le_of_ble_eq_true rfl), (Nat.le_of_ble_eq_true rfl)⟩ (Nat.le_of_ble_eq_true rfl) ⟨(Nat.le_of_ble_eq_true rfl), (Nat.le_of_ble_eq_true rfl)⟩ ?_
          obtain ⟨x39, ex39, h⟩ := zoL_s h
          rw [← ex39]
          refine zr_istore F zd_XReader_needNumber_92 (by decide) ?_
          refine zr_iinc (v := (v4 + 1)) F zd_XReader_needNumber_94 rfl rfl (by decide) ?_
          refine zr_goto F 37 zd_XReader_needNumber_97 (by decide) ?_
          refine zr_loc (L' := [(0, .ref (b + v0)), (1, .int v1), (2, .int v2), (3, .int v3), (4, .int (v4 + 1)), (5, .int x39)]) ⟨rfl, rfl, rfl, rfl, rfl, rfl, trivial⟩ ?_
          exact ih _ _ _ _ _ _ _ _ h hx0
def T_XReader_needNumber (sh : zSh) (mm : zMem) (o : Nat) (x0_ : Int32) (x1_ : Int32) : Option zMem := zoS (sh o) 7 (fun le2 => zoL (mm.1 o 5) (fun x3 => zoS (sh o) 7 (fun le5 => zoL (mI mm o 6 x3) (fun mm6 => zoS (sh o) 7 (fun le8 => Option.bind (F_XReader_sees sh mm6 o 45) (fun p9 => (if p9.1 = 0 then zoS (sh o) 7 (fun le12 => zoL ((p9.2).1 o 5) (fun x13 => Option.bind (L_T_XReader_needNumber_37 sh zfuel o x0_ x1_ x13 x13 0 (p9.2)) (fun q40 => (if q40.2.2.2.2.1 = q40.2.2.2.1 then zoS (sh (q40.1)) 7 (fun le84 => zoS (sh (q40.1)) 7 (fun le86 => zoL ((q40.2.2.2.2.2.2).1 (q40.1) 5) (fun x87 => T_XReader_refuse sh (q40.2.2.2.2.2.2) (q40.1) 1 x87))) else zoS (sh (q40.1)) 7 (fun le43 => Option.bind (F_XReader_sees sh (q40.2.2.2.2.2.2) (q40.1) 45) (fun p44 => (if p44.1 = 0 then zoS (sh (q40.1)) 7 (fun le47 => zoS (sh (q40.1)) 7 (fun le49 => zoL (q40.2.2.2.2.1 - ((p44.2).1 (q40.1) 5)) (fun x50 => Option.bind (F_XReader_step sh (p44.2) (q40.1) x50) (fun p51 => (if q40.2.2.2.2.2.1 < q40.2.1 then zoS (sh (q40.1)) 7 (fun le54 => zoS (sh (q40.1)) 7 (fun le56 => T_XReader_refuse sh p51 (q40.1) 2 (p51.1 (q40.1) 6))) else (if q40.2.2.2.2.2.1 ≤ q40.2.2.1 then none else zoS (sh (q40.1)) 7 (fun le60 => zoS (sh (q40.1)) 7 (fun le62 => T_XReader_refuse sh p51 (q40.1) 2 (p51.1 (q40.1) 6))))))))) else zoL (-q40.2.2.2.2.2.1) (fun x64 => zoS (sh (q40.1)) 7 (fun le66 => zoS (sh (q40.1)) 7 (fun le68 => zoL (q40.2.2.2.2.1 - ((p44.2).1 (q40.1) 5)) (fun x69 => Option.bind (F_XReader_step sh (p44.2) (q40.1) x69) (fun p70 => (if x64 < q40.2.1 then zoS (sh (q40.1)) 7 (fun le73 => zoS (sh (q40.1)) 7 (fun le75 => T_XReader_refuse sh p70 (q40.1) 2 (p70.1 (q40.1) 6))) else (if x64 ≤ q40.2.2.1 then none else zoS (sh (q40.1)) 7 (fun le79 => zoS (sh (q40.1)) 7 (fun le81 => T_XReader_refuse sh p70 (q40.1) 2 (p70.1 (q40.1) 6))))))))))))))))) else zoS (sh o) 7 (fun le90 => zoL (((p9.2).1 o 5) + 1) (fun x91 => Option.bind (L_T_XReader_needNumber_37 sh zfuel o x0_ x1_ x91 x91 0 (p9.2)) (fun q92 => (if q92.2.2.2.2.1 = q92.2.2.2.1 then zoS (sh (q92.1)) 7 (fun le136 => zoS (sh (q92.1)) 7 (fun le138 => zoL ((q92.2.2.2.2.2.2).1 (q92.1) 5) (fun x139 => T_XReader_refuse sh (q92.2.2.2.2.2.2) (q92.1) 1 x139))) else zoS (sh (q92.1)) 7 (fun le95 => Option.bind (F_XReader_sees sh (q92.2.2.2.2.2.2) (q92.1) 45) (fun p96 => (if p96.1 = 0 then zoS (sh (q92.1)) 7 (fun le99 => zoS (sh (q92.1)) 7 (fun le101 => zoL (q92.2.2.2.2.1 - ((p96.2).1 (q92.1) 5)) (fun x102 => Option.bind (F_XReader_step sh (p96.2) (q92.1) x102) (fun p103 => (if q92.2.2.2.2.2.1 < q92.2.1 then zoS (sh (q92.1)) 7 (fun le106 => zoS (sh (q92.1)) 7 (fun le108 => T_XReader_refuse sh p103 (q92.1) 2 (p103.1 (q92.1) 6))) else (if q92.2.2.2.2.2.1 ≤ q92.2.2.1 then none else zoS (sh (q92.1)) 7 (fun le112 => zoS (sh (q92.1)) 7 (fun le114 => T_XReader_refuse sh p103 (q92.1) 2 (p103.1 (q92.1) 6))))))))) else zoL (-q92.2.2.2.2.2.1) (fun x116 => zoS (sh (q92.1)) 7 (fun le118 => zoS (sh (q92.1)) 7 (fun le120 => zoL (q92.2.2.2.2.1 - ((p96.2).1 (q92.1) 5)) (fun x121 => Option.bind (F_XReader_step sh (p96.2) (q92.1) x121) (fun p122 => (if x116 < q92.2.1 then zoS (sh (q92.1)) 7 (fun le125 => zoS (sh (q92.1)) 7 (fun le127 => T_XReader_refuse sh p122 (q92.1) 2 (p122.1 (q92.1) 6))) else (if x116 ≤ q92.2.2.1 then none else zoS (sh (q92.1)) 7 (fun le131 => zoS (sh (q92.1)) 7 (fun le133 => T_XReader_refuse sh p122 (q92.1) 2 (p122.1 (q92.1) 6))))))))))))))))))))))))
set_option maxHeartbeats 4000000 in
set_option maxRecDepth 100000 in
theorem kT_XReader_needNumber (l : Launch) (D : va_G) (tA : Nat → ClassId) (b : Nat) (sh : zSh) (n : Nat) (hl : l.stackTraces = false) {mm : zMem} {o : Nat} {x0_ : Int32} {x1_ : Int32} {r : zMem} (h : T_XReader_needNumber sh mm o x0_ x1_ = some r) : zMT l D tA b zy_XReader_needNumber zb_XReader_needNumber 6 (some .int) 7 112 1 6 [.ref (b + o), .int x0_, .int x1_] (zW tA b sh mm) n "java/lang/IllegalArgumentException" (zW tA b sh r) (n + 1) := by
  unfold T_XReader_needNumber at h
  refine zMT_of (own := "OrreryBox$Reader") (plainFor_of_name (by decide)) rfl (Nat.le_of_ble_eq_true rfl) (fun p e s m below meth c F hno hH => ?_)
  refine zr_aload_n F zd_XReader_needNumber_0 rfl ?_
  refine zr_aload_n F zd_XReader_needNumber_1 rfl ?_
  obtain ⟨le2, hs1, h⟩ := zoS_s h
  refine zr_get F 7 5 zd_XReader_needNumber_2 (zW_o hs1 (by decide)) rfl (by decide) zw_53 rfl (by rfl) ?_
  obtain ⟨x3, ex3, h⟩ := zoL_s h
  rw [← ex3]
  obtain ⟨le5, hs4, h⟩ := zoS_s h
  refine zr_put F 7 6 zd_XReader_needNumber_5 (zW_o hs4 (by decide)) rfl (by decide) zw_54 rfl rfl rfl rfl (by exact (Nat.le_of_ble_eq_true rfl)) ?_
  obtain ⟨mm6, emm6, h⟩ := zoL_s h
  refine zr_norm (zW tA b sh mm6) _ (by rw [emm6]; exact zW_pI (v := x3) hs4 (by decide) (zf_I_7_6 b _ _ _)) rfl ?_
  refine zr_aload_n F zd_XReader_needNumber_8 rfl ?_
  refine zr_bipushv (v := 45) F zd_XReader_needNumber_9 (by decide) ?_
  obtain ⟨le8, hs7, h⟩ := zoS_s h
  obtain ⟨p9, ep9, h⟩ := zoB_s h
  refine zr_callV1 F (k_XReader_sees l D tA b sh _ ep9) zd_XReader_needNumber_11 (zW_o hs7 (by decide)) rfl zs_XReader_49 rfl zq_XReader_sees rfl rfl ⟨(Nat.le_of_ble_eq_true rfl), (Nat.le_of_ble_eq_true rfl)⟩ (Nat.le_of_ble_eq_true rfl) ⟨(Nat.le_of_ble_eq_true rfl), (Nat.le_of_ble_eq_true rfl)⟩ ?_
  refine zr_pcn 14 rfl ?_
  refine zr_if_eq F 26 zd_XReader_needNumber_14 (by decide) (fun hb10 => ?_) (fun hb10 => ?_)
  ·
    rw [if_pos hb10] at h
    refine zr_aload_n F zd_XReader_needNumber_26 rfl ?_
    obtain ⟨le12, hs11, h⟩ := zoS_s h
    refine zr_get F 7 5 zd_XReader_needNumber_27 (zW_o hs11 (by decide)) rfl (by decide) zw_53 rfl (by rfl) ?_
    obtain ⟨x13, ex13, h⟩ := zoL_s h
    rw [← ex13]
    refine zr_istore_n F zd_XReader_needNumber_30 (by decide) ?_
    refine zr_iload_n F zd_XReader_needNumber_31 rfl ?_
    refine zr_istore F zd_XReader_needNumber_32 (by decide) ?_
    refine zr_iconstv (v := 0) F zd_XReader_needNumber_34 (by decide) ?_
    refine zr_istore F zd_XReader_needNumber_35 (by decide) ?_
    obtain ⟨q40, eq40, h⟩ := zoB_s h
    refine zr_loc (L' := [(0, .ref (b + o)), (1, .int x0_), (2, .int x1_), (3, .int x13), (4, .int x13), (5, .int 0)]) ⟨rfl, rfl, rfl, rfl, rfl, rfl, trivial⟩ ?_
    refine lp_T_XReader_needNumber_37 F hl hno _ _ _ _ _ _ _ _ _ eq40 ?_
    ·
      refine zr_iload F zd_XReader_needNumber_100 rfl ?_
      refine zr_pcn 102 rfl ?_
      refine zr_iload_n F zd_XReader_needNumber_102 rfl ?_
      refine zr_icmp_ne F 115 zd_XReader_needNumber_103 (by decide) (fun hb41 => ?_) (fun hb41 => ?_)
      ·
        rw [if_neg hb41] at h
        refine zr_aload_n F zd_XReader_needNumber_115 rfl ?_
        refine zr_bipushv (v := 45) F zd_XReader_needNumber_116 (by decide) ?_
        obtain ⟨le43, hs42, h⟩ := zoS_s h
        obtain ⟨p44, ep44, h⟩ := zoB_s h
        refine zr_callV1 F (k_XReader_sees l D tA b sh _ ep44) zd_XReader_needNumber_118 (zW_o hs42 (by decide)) rfl zs_XReader_49 rfl zq_XReader_sees rfl rfl ⟨(Nat.le_of_ble_eq_true rfl), (Nat.le_of_ble_eq_true rfl)⟩ (Nat.le_of_ble_eq_true rfl) ⟨(Nat.le_of_ble_eq_true rfl), (Nat.le_of_ble_eq_true rfl)⟩ ?_
        refine zr_if_eq F 130 zd_XReader_needNumber_121 (by decide) (fun hb45 => ?_) (fun hb45 => ?_)
        ·
          rw [if_pos hb45] at h
          refine zr_iload F zd_XReader_needNumber_130 rfl ?_
          refine zr_istore F zd_XReader_needNumber_132 (by decide) ?_
          refine zr_pcn 134 rfl ?_
          refine zr_aload_n F zd_XReader_needNumber_134 rfl ?_
          refine zr_iload F zd_XReader_needNumber_135 rfl ?_
          refine zr_aload_n F zd_XReader_needNumber_137 rfl ?_
          obtain ⟨le47, hs46, h⟩ := zoS_s h
          refine zr_get F 7 5 zd_XReader_needNumber_138 (zW_o hs46 (by decide)) rfl (by decide) zw_53 rfl (by rfl) ?_
          refine zr_isub F zd_XReader_needNumber_141 ?_
          obtain ⟨le49, hs48, h⟩ := zoS_s h
          obtain ⟨x50, ex50, h⟩ := zoL_s h
          rw [← ex50]
          obtain ⟨p51, ep51, h⟩ := zoB_s h
          refine zr_callV0 F (k_XReader_step l D tA b sh _ ep51) zd_XReader_needNumber_142 (zW_o hs48 (by decide)) rfl zs_XReader_41 rfl zq_XReader_step rfl rfl ⟨(Nat.le_of_ble_eq_true rfl), (Nat.le_of_ble_eq_true rfl)⟩ (Nat.le_of_ble_eq_true rfl) ⟨(Nat.le_of_ble_eq_true rfl), (Nat.le_of_ble_eq_true rfl)⟩ ?_
          refine zr_iload F zd_XReader_needNumber_145 rfl ?_
          refine zr_iload_n F zd_XReader_needNumber_147 rfl ?_
          refine zr_pcn 148 rfl ?_
          refine zr_icmp_lt F 157 zd_XReader_needNumber_148 (by decide) (fun hb52 => ?_) (fun hb52 => ?_)
          ·
            rw [if_pos hb52] at h
            refine zr_aload_n F zd_XReader_needNumber_157 rfl ?_
            refine zr_iconstv (v := 2) F zd_XReader_needNumber_158 (by decide) ?_
            refine zr_aload_n F zd_XReader_needNumber_159 rfl ?_
            obtain ⟨le54, hs53, h⟩ := zoS_s h
            refine zr_get F 7 6 zd_XReader_needNumber_160 (zW_o hs53 (by decide)) rfl (by decide) zw_54 rfl (by rfl) ?_
            obtain ⟨le56, hs55, h⟩ := zoS_s h
            exact zr_thrV F hno (kT_XReader_refuse l D tA b sh _ hl h) zd_XReader_needNumber_163 (zW_o hs55 (by decide)) rfl zs_XReader_77 rfl zq_XReader_refuse rfl rfl ⟨(Nat.le_of_ble_eq_true rfl), (Nat.le_of_ble_eq_true rfl)⟩ (Nat.le_of_ble_eq_true rfl) ⟨(Nat.le_of_ble_eq_true rfl), (Nat.le_of_ble_eq_true rfl)⟩ ⟨(Nat.le_of_ble_eq_true rfl), (Nat.le_of_ble_eq_true rfl)⟩
          ·
            rw [if_neg hb52] at h
            refine zr_iload F zd_XReader_needNumber_151 rfl ?_
            refine zr_iload_n F zd_XReader_needNumber_153 rfl ?_
            refine zr_pcn 154 rfl ?_
            refine zr_icmp_le F 166 zd_XReader_needNumber_154 (by decide) (fun hb58 => ?_) (fun hb58 => ?_)
            ·
              rw [if_pos hb58] at h
              refine zr_iload F zd_XReader_needNumber_166 rfl ?_
              cases h
            ·
              rw [if_neg hb58] at h
              refine zr_aload_n F zd_XReader_needNumber_157 rfl ?_
              refine zr_iconstv (v := 2) F zd_XReader_needNumber_158 (by decide) ?_
              refine zr_aload_n F zd_XReader_needNumber_159 rfl ?_
              obtain ⟨le60, hs59, h⟩ := zoS_s h
              refine zr_get F 7 6 zd_XReader_needNumber_160 (zW_o hs59 (by decide)) rfl (by decide) zw_54 rfl (by rfl) ?_
              obtain ⟨le62, hs61, h⟩ := zoS_s h
              exact zr_thrV F hno (kT_XReader_refuse l D tA b sh _ hl h) zd_XReader_needNumber_163 (zW_o hs61 (by decide)) rfl zs_XReader_77 rfl zq_XReader_refuse rfl rfl ⟨(Nat.le_of_ble_eq_true rfl), (Nat.le_of_ble_eq_true rfl)⟩ (Nat.le_of_ble_eq_true rfl) ⟨(Nat.le_of_ble_eq_true rfl), (Nat.le_of_ble_eq_true rfl)⟩ ⟨(Nat.le_of_ble_eq_true rfl), (Nat.le_of_ble_eq_true rfl)⟩
        ·
          rw [if_neg hb45] at h
          refine zr_pcn 124 rfl ?_
          refine zr_iload F zd_XReader_needNumber_124 rfl ?_
          refine zr_ineg F zd_XReader_needNumber_126 ?_
          refine zr_goto F 132 zd_XReader_needNumber_127 (by decide) ?_
          obtain ⟨x64, ex64, h⟩ := zoL_s h
          rw [← ex64]
          refine zr_istore F zd_XReader_needNumber_132 (by decide) ?_
          refine zr_aload_n F zd_XReader_needNumber_134 rfl ?_
          refine zr_iload F zd_XReader_needNumber_135 rfl ?_
          refine zr_aload_n F zd_XReader_needNumber_137 rfl ?_
          obtain ⟨le66, hs65, h⟩ := zoS_s h
          refine zr_get F 7 5 zd_XReader_needNumber_138 (zW_o hs65 (by decide)) rfl (by decide) zw_53 rfl (by rfl) ?_
          refine zr_pcn 141 rfl ?_
          refine zr_isub F zd_XReader_needNumber_141 ?_
          obtain ⟨le68, hs67, h⟩ := zoS_s h
          obtain ⟨x69, ex69, h⟩ := zoL_s h
          rw [← ex69]
          obtain ⟨p70, ep70, h⟩ := zoB_s h
          refine zr_callV0 F (k_XReader_step l D tA b sh _ ep70) zd_XReader_needNumber_142 (zW_o hs67 (by decide)) rfl zs_XReader_41 rfl zq_XReader_step rfl rfl ⟨(Nat.le_of_ble_eq_true rfl), (Nat.le_of_ble_eq_true rfl)⟩ (Nat.le_of_ble_eq_true rfl) ⟨(Nat.le_of_ble_eq_true rfl), (Nat.le_of_ble_eq_true rfl)⟩ ?_
          refine zr_iload F zd_XReader_needNumber_145 rfl ?_
          refine zr_iload_n F zd_XReader_needNumber_147 rfl ?_
          refine zr_icmp_lt F 157 zd_XReader_needNumber_148 (by decide) (fun hb71 => ?_) (fun hb71 => ?_)
          ·
            rw [if_pos hb71] at h
            refine zr_aload_n F zd_XReader_needNumber_157 rfl ?_
            refine zr_iconstv (v := 2) F zd_XReader_needNumber_158 (by decide) ?_
            refine zr_aload_n F zd_XReader_needNumber_159 rfl ?_
            refine zr_pcn 160 rfl ?_
            obtain ⟨le73, hs72, h⟩ := zoS_s h
            refine zr_get F 7 6 zd_XReader_needNumber_160 (zW_o hs72 (by decide)) rfl (by decide) zw_54 rfl (by rfl) ?_
            obtain ⟨le75, hs74, h⟩ := zoS_s h
            exact zr_thrV F hno (kT_XReader_refuse l D tA b sh _ hl h) zd_XReader_needNumber_163 (zW_o hs74 (by decide)) rfl zs_XReader_77 rfl zq_XReader_refuse rfl rfl ⟨(Nat.le_of_ble_eq_true rfl), (Nat.le_of_ble_eq_true rfl)⟩ (Nat.le_of_ble_eq_true rfl) ⟨(Nat.le_of_ble_eq_true rfl), (Nat.le_of_ble_eq_true rfl)⟩ ⟨(Nat.le_of_ble_eq_true rfl), (Nat.le_of_ble_eq_true rfl)⟩
          ·
            rw [if_neg hb71] at h
            refine zr_iload F zd_XReader_needNumber_151 rfl ?_
            refine zr_iload_n F zd_XReader_needNumber_153 rfl ?_
            refine zr_icmp_le F 166 zd_XReader_needNumber_154 (by decide) (fun hb77 => ?_) (fun hb77 => ?_)
            ·
              rw [if_pos hb77] at h
              refine zr_iload F zd_XReader_needNumber_166 rfl ?_
              cases h
            ·
              rw [if_neg hb77] at h
              refine zr_aload_n F zd_XReader_needNumber_157 rfl ?_
              refine zr_pcn 158 rfl ?_
              refine zr_iconstv (v := 2) F zd_XReader_needNumber_158 (by decide) ?_
              refine zr_aload_n F zd_XReader_needNumber_159 rfl ?_
              obtain ⟨le79, hs78, h⟩ := zoS_s h
              refine zr_get F 7 6 zd_XReader_needNumber_160 (zW_o hs78 (by decide)) rfl (by decide) zw_54 rfl (by rfl) ?_
              obtain ⟨le81, hs80, h⟩ := zoS_s h
              exact zr_thrV F hno (kT_XReader_refuse l D tA b sh _ hl h) zd_XReader_needNumber_163 (zW_o hs80 (by decide)) rfl zs_XReader_77 rfl zq_XReader_refuse rfl rfl ⟨(Nat.le_of_ble_eq_true rfl), (Nat.le_of_ble_eq_true rfl)⟩ (Nat.le_of_ble_eq_true rfl) ⟨(Nat.le_of_ble_eq_true rfl), (Nat.le_of_ble_eq_true rfl)⟩ ⟨(Nat.le_of_ble_eq_true rfl), (Nat.le_of_ble_eq_true rfl)⟩
      ·
        rw [if_pos hb41] at h
        refine zr_aload_n F zd_XReader_needNumber_106 rfl ?_
        refine zr_iconstv (v := 1) F zd_XReader_needNumber_107 (by decide) ?_
        refine zr_aload_n F zd_XReader_needNumber_108 rfl ?_
        obtain ⟨le84, hs83, h⟩ := zoS_s h
        refine zr_get F 7 5 zd_XReader_needNumber_109 (zW_o hs83 (by decide)) rfl (by decide) zw_53 rfl (by rfl) ?_
        refine zr_pcn 112 rfl ?_
        obtain ⟨le86, hs85, h⟩ := zoS_s h
        obtain ⟨x87, ex87, h⟩ := zoL_s h
        rw [← ex87]
        exact zr_thrV F hno (kT_XReader_refuse l D tA b sh _ hl h) zd_XReader_needNumber_112 (zW_o hs85 (by decide)) rfl zs_XReader_77 rfl zq_XReader_refuse rfl rfl ⟨(Nat.le_of_ble_eq_true rfl), (Nat.le_of_ble_eq_true rfl)⟩ (Nat.le_of_ble_eq_true rfl) ⟨(Nat.le_of_ble_eq_true rfl), (Nat.le_of_ble_eq_true rfl)⟩ ⟨(Nat.le_of_ble_eq_true rfl), (Nat.le_of_ble_eq_true rfl)⟩
  ·
    rw [if_neg hb10] at h
    refine zr_aload_n F zd_XReader_needNumber_17 rfl ?_
    obtain ⟨le90, hs89, h⟩ := zoS_s h
    refine zr_get F 7 5 zd_XReader_needNumber_18 (zW_o hs89 (by decide)) rfl (by decide) zw_53 rfl (by rfl) ?_
    refine zr_iconstv (v := 1) F zd_XReader_needNumber_21 (by decide) ?_
    refine zr_iadd F zd_XReader_needNumber_22 ?_
    refine zr_goto F 30 zd_XReader_needNumber_23 (by decide) ?_
    obtain ⟨x91, ex91, h⟩ := zoL_s h
    rw [← ex91]
    refine zr_istore_n F zd_XReader_needNumber_30 (by decide) ?_
    refine zr_iload_n F zd_XReader_needNumber_31 rfl ?_
    refine zr_pcn 32 rfl ?_
    refine zr_istore F zd_XReader_needNumber_32 (by decide) ?_
    refine zr_iconstv (v := 0) F zd_XReader_needNumber_34 (by decide) ?_
    refine zr_istore F zd_XReader_needNumber_35 (by decide) ?_
    obtain ⟨q92, eq92, h⟩ := zoB_s h
    refine zr_loc (L' := [(0, .ref (b + o)), (1, .int x0_), (2, .int x1_), (3, .int x91), (4, .int x91), (5, .int 0)]) ⟨rfl, rfl, rfl, rfl, rfl, rfl, trivial⟩ ?_
    refine lp_T_XReader_needNumber_37 F hl hno _ _ _ _ _ _ _ _ _ eq92 ?_
    ·
      refine zr_iload F zd_XReader_needNumber_100 rfl ?_
      refine zr_iload_n F zd_XReader_needNumber_102 rfl ?_
      refine zr_icmp_ne F 115 zd_XReader_needNumber_103 (by decide) (fun hb93 => ?_) (fun hb93 => ?_)
      ·
        rw [if_neg hb93] at h
        refine zr_aload_n F zd_XReader_needNumber_115 rfl ?_
        refine zr_bipushv (v := 45) F zd_XReader_needNumber_116 (by decide) ?_
        refine zr_pcn 118 rfl ?_
        obtain ⟨le95, hs94, h⟩ := zoS_s h
        obtain ⟨p96, ep96, h⟩ := zoB_s h
        refine zr_callV1 F (k_XReader_sees l D tA b sh _ ep96) zd_XReader_needNumber_118 (zW_o hs94 (by decide)) rfl zs_XReader_49 rfl zq_XReader_sees rfl rfl ⟨(Nat.le_of_ble_eq_true rfl), (Nat.le_of_ble_eq_true rfl)⟩ (Nat.le_of_ble_eq_true rfl) ⟨(Nat.le_of_ble_eq_true rfl), (Nat.le_of_ble_eq_true rfl)⟩ ?_
        refine zr_if_eq F 130 zd_XReader_needNumber_121 (by decide) (fun hb97 => ?_) (fun hb97 => ?_)
        ·
          rw [if_pos hb97] at h
          refine zr_iload F zd_XReader_needNumber_130 rfl ?_
          refine zr_istore F zd_XReader_needNumber_132 (by decide) ?_
          refine zr_aload_n F zd_XReader_needNumber_134 rfl ?_
          refine zr_iload F zd_XReader_needNumber_135 rfl ?_
          refine zr_aload_n F zd_XReader_needNumber_137 rfl ?_
          obtain ⟨le99, hs98, h⟩ := zoS_s h
          refine zr_get F 7 5 zd_XReader_needNumber_138 (zW_o hs98 (by decide)) rfl (by decide) zw_53 rfl (by rfl) ?_
          refine zr_pcn 141 rfl ?_
          refine zr_isub F zd_XReader_needNumber_141 ?_
          obtain ⟨le101, hs100, h⟩ := zoS_s h
          obtain ⟨x102, ex102, h⟩ := zoL_s h
          rw [← ex102]
          obtain ⟨p103, ep103, h⟩ := zoB_s h
          refine zr_callV0 F (k_XReader_step l D tA b sh _ ep103) zd_XReader_needNumber_142 (zW_o hs100 (by decide)) rfl zs_XReader_41 rfl zq_XReader_step rfl rfl ⟨(Nat.le_of_ble_eq_true rfl), (Nat.le_of_ble_eq_true rfl)⟩ (Nat.le_of_ble_eq_true rfl) ⟨(Nat.le_of_ble_eq_true rfl), (Nat.le_of_ble_eq_true rfl)⟩ ?_
          refine zr_iload F zd_XReader_needNumber_145 rfl ?_
          refine zr_iload_n F zd_XReader_needNumber_147 rfl ?_
          refine zr_icmp_lt F 157 zd_XReader_needNumber_148 (by decide) (fun hb104 => ?_) (fun hb104 => ?_)
          ·
            rw [if_pos hb104] at h
            refine zr_aload_n F zd_XReader_needNumber_157 rfl ?_
            refine zr_iconstv (v := 2) F zd_XReader_needNumber_158 (by decide) ?_
            refine zr_aload_n F zd_XReader_needNumber_159 rfl ?_
            refine zr_pcn 160 rfl ?_
            obtain ⟨le106, hs105, h⟩ := zoS_s h
            refine zr_get F 7 6 zd_XReader_needNumber_160 (zW_o hs105 (by decide)) rfl (by decide) zw_54 rfl (by rfl) ?_
            obtain ⟨le108, hs107, h⟩ := zoS_s h
            exact zr_thrV F hno (kT_XReader_refuse l D tA b sh _ hl h) zd_XReader_needNumber_163 (zW_o hs107 (by decide)) rfl zs_XReader_77 rfl zq_XReader_refuse rfl rfl ⟨(Nat.le_of_ble_eq_true rfl), (Nat.le_of_ble_eq_true rfl)⟩ (Nat.le_of_ble_eq_true rfl) ⟨(Nat.le_of_ble_eq_true rfl), (Nat.le_of_ble_eq_true rfl)⟩ ⟨(Nat.le_of_ble_eq_true rfl), (Nat.le_of_ble_eq_true rfl)⟩
          ·
            rw [if_neg hb104] at h
            refine zr_iload F zd_XReader_needNumber_151 rfl ?_
            refine zr_iload_n F zd_XReader_needNumber_153 rfl ?_
            refine zr_icmp_le F 166 zd_XReader_needNumber_154 (by decide) (fun hb110 => ?_) (fun hb110 => ?_)
            ·
              rw [if_pos hb110] at h
              refine zr_iload F zd_XReader_needNumber_166 rfl ?_
              cases h
            ·
              rw [if_neg hb110] at h
              refine zr_aload_n F zd_XReader_needNumber_157 rfl ?_
              refine zr_pcn 158 rfl ?_
              refine zr_iconstv (v := 2) F zd_XReader_needNumber_158 (by decide) ?_
              refine zr_aload_n F zd_XReader_needNumber_159 rfl ?_
              obtain ⟨le112, hs111, h⟩ := zoS_s h
              refine zr_get F 7 6 zd_XReader_needNumber_160 (zW_o hs111 (by decide)) rfl (by decide) zw_54 rfl (by rfl) ?_
              obtain ⟨le114, hs113, h⟩ := zoS_s h
              exact zr_thrV F hno (kT_XReader_refuse l D tA b sh _ hl h) zd_XReader_needNumber_163 (zW_o hs113 (by decide)) rfl zs_XReader_77 rfl zq_XReader_refuse rfl rfl ⟨(Nat.le_of_ble_eq_true rfl), (Nat.le_of_ble_eq_true rfl)⟩ (Nat.le_of_ble_eq_true rfl) ⟨(Nat.le_of_ble_eq_true rfl), (Nat.le_of_ble_eq_true rfl)⟩ ⟨(Nat.le_of_ble_eq_true rfl), (Nat.le_of_ble_eq_true rfl)⟩
        ·
          rw [if_neg hb97] at h
          refine zr_iload F zd_XReader_needNumber_124 rfl ?_
          refine zr_ineg F zd_XReader_needNumber_126 ?_
          refine zr_goto F 132 zd_XReader_needNumber_127 (by decide) ?_
          obtain ⟨x116, ex116, h⟩ := zoL_s h
          rw [← ex116]
          refine zr_istore F zd_XReader_needNumber_132 (by decide) ?_
          refine zr_pcn 134 rfl ?_
          refine zr_aload_n F zd_XReader_needNumber_134 rfl ?_
          refine zr_iload F zd_XReader_needNumber_135 rfl ?_
          refine zr_aload_n F zd_XReader_needNumber_137 rfl ?_
          obtain ⟨le118, hs117, h⟩ := zoS_s h
          refine zr_get F 7 5 zd_XReader_needNumber_138 (zW_o hs117 (by decide)) rfl (by decide) zw_53 rfl (by rfl) ?_
          refine zr_isub F zd_XReader_needNumber_141 ?_
          obtain ⟨le120, hs119, h⟩ := zoS_s h
          obtain ⟨x121, ex121, h⟩ := zoL_s h
          rw [← ex121]
          obtain ⟨p122, ep122, h⟩ := zoB_s h
          refine zr_callV0 F (k_XReader_step l D tA b sh _ ep122) zd_XReader_needNumber_142 (zW_o hs119 (by decide)) rfl zs_XReader_41 rfl zq_XReader_step rfl rfl ⟨(Nat.le_of_ble_eq_true rfl), (Nat.le_of_ble_eq_true rfl)⟩ (Nat.le_of_ble_eq_true rfl) ⟨(Nat.le_of_ble_eq_true rfl), (Nat.le_of_ble_eq_true rfl)⟩ ?_
          refine zr_iload F zd_XReader_needNumber_145 rfl ?_
          refine zr_iload_n F zd_XReader_needNumber_147 rfl ?_
          refine zr_pcn 148 rfl ?_
          refine zr_icmp_lt F 157 zd_XReader_needNumber_148 (by decide) (fun hb123 => ?_) (fun hb123 => ?_)
          ·
            rw [if_pos hb123] at h
            refine zr_aload_n F zd_XReader_needNumber_157 rfl ?_
            refine zr_iconstv (v := 2) F zd_XReader_needNumber_158 (by decide) ?_
            refine zr_aload_n F zd_XReader_needNumber_159 rfl ?_
            obtain ⟨le125, hs124, h⟩ := zoS_s h
            refine zr_get F 7 6 zd_XReader_needNumber_160 (zW_o hs124 (by decide)) rfl (by decide) zw_54 rfl (by rfl) ?_
            obtain ⟨le127, hs126, h⟩ := zoS_s h
            exact zr_thrV F hno (kT_XReader_refuse l D tA b sh _ hl h) zd_XReader_needNumber_163 (zW_o hs126 (by decide)) rfl zs_XReader_77 rfl zq_XReader_refuse rfl rfl ⟨(Nat.le_of_ble_eq_true rfl), (Nat.le_of_ble_eq_true rfl)⟩ (Nat.le_of_ble_eq_true rfl) ⟨(Nat.le_of_ble_eq_true rfl), (Nat.le_of_ble_eq_true rfl)⟩ ⟨(Nat.le_of_ble_eq_true rfl), (Nat.le_of_ble_eq_true rfl)⟩
          ·
            rw [if_neg hb123] at h
            refine zr_iload F zd_XReader_needNumber_151 rfl ?_
            refine zr_iload_n F zd_XReader_needNumber_153 rfl ?_
            refine zr_pcn 154 rfl ?_
            refine zr_icmp_le F 166 zd_XReader_needNumber_154 (by decide) (fun hb129 => ?_) (fun hb129 => ?_)
            ·
              rw [if_pos hb129] at h
              refine zr_iload F zd_XReader_needNumber_166 rfl ?_
              cases h
            ·
              rw [if_neg hb129] at h
              refine zr_aload_n F zd_XReader_needNumber_157 rfl ?_
              refine zr_iconstv (v := 2) F zd_XReader_needNumber_158 (by decide) ?_
              refine zr_aload_n F zd_XReader_needNumber_159 rfl ?_
              obtain ⟨le131, hs130, h⟩ := zoS_s h
              refine zr_get F 7 6 zd_XReader_needNumber_160 (zW_o hs130 (by decide)) rfl (by decide) zw_54 rfl (by rfl) ?_
              obtain ⟨le133, hs132, h⟩ := zoS_s h
              exact zr_thrV F hno (kT_XReader_refuse l D tA b sh _ hl h) zd_XReader_needNumber_163 (zW_o hs132 (by decide)) rfl zs_XReader_77 rfl zq_XReader_refuse rfl rfl ⟨(Nat.le_of_ble_eq_true rfl), (Nat.le_of_ble_eq_true rfl)⟩ (Nat.le_of_ble_eq_true rfl) ⟨(Nat.le_of_ble_eq_true rfl), (Nat.le_of_ble_eq_true rfl)⟩ ⟨(Nat.le_of_ble_eq_true rfl), (Nat.le_of_ble_eq_true rfl)⟩
      ·
        rw [if_pos hb93] at h
        refine zr_pcn 106 rfl ?_
        refine zr_aload_n F zd_XReader_needNumber_106 rfl ?_
        refine zr_iconstv (v := 1) F zd_XReader_needNumber_107 (by decide) ?_
        refine zr_aload_n F zd_XReader_needNumber_108 rfl ?_
        obtain ⟨le136, hs135, h⟩ := zoS_s h
        refine zr_get F 7 5 zd_XReader_needNumber_109 (zW_o hs135 (by decide)) rfl (by decide) zw_53 rfl (by rfl) ?_
        obtain ⟨le138, hs137, h⟩ := zoS_s h
        obtain ⟨x139, ex139, h⟩ := zoL_s h
        rw [← ex139]
        exact zr_thrV F hno (kT_XReader_refuse l D tA b sh _ hl h) zd_XReader_needNumber_112 (zW_o hs137 (by decide)) rfl zs_XReader_77 rfl zq_XReader_refuse rfl rfl ⟨(Nat.le_of_ble_eq_true rfl), (Nat.le_of_ble_eq_true rfl)⟩ (Nat.le_of_ble_eq_true rfl) ⟨(Nat.le_of_ble_eq_true rfl), (Nat.le_of_ble_eq_true rfl)⟩ ⟨(Nat.le_of_ble_eq_true rfl), (Nat.le_of_ble_eq_true rfl)⟩
abbrev zb_XReader_needName : ByteArray := prog_8_method_15_code
def zy_XReader_needName : MethodName := ⟨"OrreryBox$Reader", "needName", "(Ljava/lang/String;)V"⟩
theorem zc_XReader_needName : Cond.code zy_XReader_needName zb_XReader_needName 2 none ∈ gw := gw_t 1179 (by decide +kernel) rfl
theorem zq_XReader_needName : zy_XReader_needName.cls ≠ "java/lang/invoke/MethodHandle" ∧ zy_XReader_needName.cls ≠ "java/lang/invoke/VarHandle" ∧ (parseMethodDescriptor zy_XReader_needName.desc).map (fun d => d.parameters.length) = some 1 := by decide +kernel
theorem zd_XReader_needName_0 : decode zb_XReader_needName 0 = .ok (.aload_n 0, 1) := by decide +kernel
theorem zd_XReader_needName_1 : decode zb_XReader_needName 1 = .ok (.aload_n 1, 1) := by decide +kernel
theorem zd_XReader_needName_2 : decode zb_XReader_needName 2 = .ok (.invokevirtual 57, 3) := by decide +kernel
theorem zd_XReader_needName_5 : decode zb_XReader_needName 5 = .ok (.ifCond .ne 12, 3) := by decide +kernel
theorem zd_XReader_needName_8 : decode zb_XReader_needName 8 = .ok (.aload_n 0, 1) := by decide +kernel
theorem zd_XReader_needName_9 : decode zb_XReader_needName 9 = .ok (.iconst 1, 1) := by decide +kernel
theorem zd_XReader_needName_10 : decode zb_XReader_needName 10 = .ok (.aload_n 0, 1) := by decide +kernel
theorem zd_XReader_needName_11 : decode zb_XReader_needName 11 = .ok (.getfield 27, 3) := by decide +kernel
theorem zd_XReader_needName_14 : decode zb_XReader_needName 14 = .ok (.invokevirtual 77, 3) := by decide +kernel
theorem zd_XReader_needName_17 : decode zb_XReader_needName 17 = .ok (.aload_n 0, 1) := by decide +kernel
theorem zd_XReader_needName_18 : decode zb_XReader_needName 18 = .ok (.aload_n 1, 1) := by decide +kernel
theorem zd_XReader_needName_19 : decode zb_XReader_needName 19 = .ok (.invokevirtual 289, 3) := by decide +kernel
theorem zd_XReader_needName_22 : decode zb_XReader_needName 22 = .ok (.iconst 2, 1) := by decide +kernel
theorem zd_XReader_needName_23 : decode zb_XReader_needName 23 = .ok (.iadd, 1) := by decide +kernel
theorem zd_XReader_needName_24 : decode zb_XReader_needName 24 = .ok (.invokevirtual 41, 3) := by decide +kernel
theorem zd_XReader_needName_27 : decode zb_XReader_needName 27 = .ok (.aload_n 0, 1) := by decide +kernel
theorem zd_XReader_needName_28 : decode zb_XReader_needName 28 = .ok (.bipush 58, 2) := by decide +kernel
theorem zd_XReader_needName_30 : decode zb_XReader_needName 30 = .ok (.invokevirtual 49, 3) := by decide +kernel
theorem zd_XReader_needName_33 : decode zb_XReader_needName 33 = .ok (.ifCond .ne 12, 3) := by decide +kernel
theorem zd_XReader_needName_36 : decode zb_XReader_needName 36 = .ok (.aload_n 0, 1) := by decide +kernel
theorem zd_XReader_needName_37 : decode zb_XReader_needName 37 = .ok (.iconst 1, 1) := by decide +kernel
theorem zd_XReader_needName_38 : decode zb_XReader_needName 38 = .ok (.aload_n 0, 1) := by decide +kernel
theorem zd_XReader_needName_39 : decode zb_XReader_needName 39 = .ok (.getfield 27, 3) := by decide +kernel
theorem zd_XReader_needName_42 : decode zb_XReader_needName 42 = .ok (.invokevirtual 77, 3) := by decide +kernel
theorem zd_XReader_needName_45 : decode zb_XReader_needName 45 = .ok (.aload_n 0, 1) := by decide +kernel
theorem zd_XReader_needName_46 : decode zb_XReader_needName 46 = .ok (.iconst 1, 1) := by decide +kernel
theorem zd_XReader_needName_47 : decode zb_XReader_needName 47 = .ok (.invokevirtual 41, 3) := by decide +kernel
theorem zd_XReader_needName_50 : decode zb_XReader_needName 50 = .ok (.return_, 1) := by decide +kernel
theorem zw_1170 : (Jvm.Cond.methodLink "OrreryBox$Reader" (57 : Nat) ({ cls := "OrreryBox$Reader", name := "seesWord", desc := "(Ljava/lang/String;)Z" } : Jvm.MethodName)) ∈ gw := gw_t 1170 (by decide +kernel) rfl
theorem zw_1172 : (Jvm.Cond.instanceMethod ({ cls := "OrreryBox$Reader", name := "seesWord", desc := "(Ljava/lang/String;)Z" } : Jvm.MethodName)) ∈ gw := gw_t 1172 (by decide +kernel) rfl
theorem zv_52 : (Jvm.Cond.selects "OrreryBox$Reader" (⟨"OrreryBox$Reader", "seesWord", "(Ljava/lang/String;)Z"⟩ : MethodName) ⟨"OrreryBox$Reader", "seesWord", "(Ljava/lang/String;)Z"⟩) ∈ gw := gw_s 52 (by decide +kernel) rfl
theorem zs_XReader_57 : zwV "OrreryBox$Reader" 57 "OrreryBox$Reader" zy_XReader_seesWord zb_XReader_seesWord 4 (some .boolean) := ⟨zw_1170, zw_1172, zv_52, zw_2, zc_XReader_seesWord⟩
def F_XReader_needName (sh : zSh) (mm : zMem) (o : Nat) (x0_ : Nat) : Option zMem := zoS (sh o) 7 (fun le2 => Option.bind (F_XReader_seesWord sh mm o x0_) (fun p3 => (if p3.1 = 0 then zoS (sh o) 7 (fun le22 => zoS (sh o) 7 (fun le24 => none)) else (if x0_ < 67 then zoS (sh o) 7 (fun le7 => Option.bind (F_XReader_step sh (p3.2) o ((ztxn x0_) + 2)) (fun p8 => zoS (sh o) 7 (fun le10 => Option.bind (F_XReader_sees sh p8 o 58) (fun p11 => (if p11.1 = 0 then zoS (sh o) 7 (fun le17 => zoS (sh o) 7 (fun le19 => none)) else zoS (sh o) 7 (fun le14 => Option.bind (F_XReader_step sh (p11.2) o 1) (fun p15 => some p15))))))) else none))))
set_option maxHeartbeats 4000000 in
set_option maxRecDepth 100000 in
theorem k_XReader_needName (l : Launch) (D : va_G) (tA : Nat → ClassId) (b : Nat) (sh : zSh) (n : Nat) {mm : zMem} {o : Nat} {x0_ : Nat} {r : zMem} (h : F_XReader_needName sh mm o x0_ = some r) : zM l D tA b zy_XReader_needName zb_XReader_needName 2 none 5 108 0 0 [.ref (b + o), .ref (D.2 1000 x0_)] (zW tA b sh mm) n (zE none (zW tA b sh r) n) := by
  unfold F_XReader_needName at h
  refine zM_of (own := "OrreryBox$Reader") (plainFor_of_name (by decide)) rfl (Nat.le_of_ble_eq_true rfl) (fun p e s m below meth c F hr hin hH => ?_)
  refine zr_aload_n F zd_XReader_needName_0 rfl ?_
  refine zr_aload_n F zd_XReader_needName_1 rfl ?_
  obtain ⟨le2, hs1, h⟩ := zoS_s h
  obtain ⟨p3, ep3, h⟩ := zoB_s h
  refine zr_callV1 F (k_XReader_seesWord l D tA b sh _ ep3) zd_XReader_needName_2 (zW_o hs1 (by decide)) rfl zs_XReader_57 rfl zq_XReader_seesWord rfl rfl ⟨(Nat.le_of_ble_eq_true rfl), (Nat.le_of_ble_eq_true rfl)⟩ (Nat.le_of_ble_eq_true rfl) ⟨(Nat.le_of_ble_eq_true rfl), (Nat.le_of_ble_eq_true rfl)⟩ ?_
  refine zr_if_ne F 17 zd_XReader_needName_5 (by decide) (fun hb4 => ?_) (fun hb4 => ?_)
  ·
    rw [if_neg hb4] at h
    refine zr_aload_n F zd_XReader_needName_17 rfl ?_
    refine zr_aload_n F zd_XReader_needName_18 rfl ?_
    obtain ⟨hg5, h⟩ := zoT_s h
    refine zr_callT F hg5 (c_JString_length l D tA b _ _ x0_ hg5) zd_XReader_needName_19 zs_XReader_289 rfl zq_JString_length rfl rfl ⟨(Nat.le_of_ble_eq_true rfl), (Nat.le_of_ble_eq_true rfl)⟩ (Nat.le_of_ble_eq_true rfl) ⟨(Nat.le_of_ble_eq_true rfl), (Nat.le_of_ble_eq_true rfl)⟩ ?_
    refine zr_pcn 22 rfl ?_
    refine zr_iconstv (v := 2) F zd_XReader_needName_22 (by decide) ?_
    refine zr_iadd F zd_XReader_needName_23 ?_
    obtain ⟨le7, hs6, h⟩ := zoS_s h
    obtain ⟨p8, ep8, h⟩ := zoB_s h
    refine zr_callV0 F (k_XReader_step l D tA b sh _ ep8) zd_XReader_needName_24 (zW_o hs6 (by decide)) rfl zs_XReader_41 rfl zq_XReader_step rfl rfl ⟨(Nat.le_of_ble_eq_true rfl), (Nat.le_of_ble_eq_true rfl)⟩ (Nat.le_of_ble_eq_true rfl) ⟨(Nat.le_of_ble_eq_true rfl), (Nat.le_of_ble_eq_true rfl)⟩ ?_
    refine zr_aload_n F zd_XReader_needName_27 rfl ?_
    refine zr_bipushv (v := 58) F zd_XReader_needName_28 (by decide) ?_
    obtain ⟨le10, hs9, h⟩ := zoS_s h
    obtain ⟨p11, ep11, h⟩ := zoB_s h
    refine zr_callV1 F (k_XReader_sees l D tA b sh _ ep11) zd_XReader_needName_30 (zW_o hs9 (by decide)) rfl zs_XReader_49 rfl zq_XReader_sees rfl rfl ⟨(Nat.le_of_ble_eq_true rfl), (Nat.le_of_ble_eq_true rfl)⟩ (Nat.le_of_ble_eq_true rfl) ⟨(Nat.le_of_ble_eq_true rfl), (Nat.le_of_ble_eq_true rfl)⟩ ?_
    refine zr_if_ne F 45 zd_XReader_needName_33 (by decide) (fun hb12 => ?_) (fun hb12 => ?_)
    ·
      rw [if_neg hb12] at h
      refine zr_aload_n F zd_XReader_needName_45 rfl ?_
      refine zr_pcn 46 rfl ?_
      refine zr_iconstv (v := 1) F zd_XReader_needName_46 (by decide) ?_
      obtain ⟨le14, hs13, h⟩ := zoS_s h
      obtain ⟨p15, ep15, h⟩ := zoB_s h
      refine zr_callV0 F (k_XReader_step l D tA b sh _ ep15) zd_XReader_needName_47 (zW_o hs13 (by decide)) rfl zs_XReader_41 rfl zq_XReader_step rfl rfl ⟨(Nat.le_of_ble_eq_true rfl), (Nat.le_of_ble_eq_true rfl)⟩ (Nat.le_of_ble_eq_true rfl) ⟨(Nat.le_of_ble_eq_true rfl), (Nat.le_of_ble_eq_true rfl)⟩ ?_
      obtain rfl := Option.some.inj h
      exact zr_vret F hr zd_XReader_needName_50 (Nat.le_of_ble_eq_true rfl) (Nat.le_of_ble_eq_true rfl) ⟨rfl, rfl, rfl⟩
    ·
      rw [if_pos hb12] at h
      refine zr_aload_n F zd_XReader_needName_36 rfl ?_
      refine zr_iconstv (v := 1) F zd_XReader_needName_37 (by decide) ?_
      refine zr_aload_n F zd_XReader_needName_38 rfl ?_
      obtain ⟨le17, hs16, h⟩ := zoS_s h
      refine zr_get F 7 5 zd_XReader_needName_39 (zW_o hs16 (by decide)) rfl (by decide) zw_53 rfl (by rfl) ?_
      obtain ⟨le19, hs18, h⟩ := zoS_s h
      cases h
  ·
    rw [if_pos hb4] at h
    refine zr_pcn 8 rfl ?_
    refine zr_aload_n F zd_XReader_needName_8 rfl ?_
    refine zr_iconstv (v := 1) F zd_XReader_needName_9 (by decide) ?_
    refine zr_aload_n F zd_XReader_needName_10 rfl ?_
    obtain ⟨le22, hs21, h⟩ := zoS_s h
    refine zr_get F 7 5 zd_XReader_needName_11 (zW_o hs21 (by decide)) rfl (by decide) zw_53 rfl (by rfl) ?_
    obtain ⟨le24, hs23, h⟩ := zoS_s h
    cases h
def T_XReader_needName (sh : zSh) (mm : zMem) (o : Nat) (x0_ : Nat) : Option zMem := zoS (sh o) 7 (fun le2 => Option.bind (F_XReader_seesWord sh mm o x0_) (fun p3 => (if p3.1 = 0 then zoS (sh o) 7 (fun le22 => zoS (sh o) 7 (fun le24 => T_XReader_refuse sh (p3.2) o 1 ((p3.2).1 o 5))) else (if x0_ < 67 then zoS (sh o) 7 (fun le7 => Option.bind (F_XReader_step sh (p3.2) o ((ztxn x0_) + 2)) (fun p8 => zoS (sh o) 7 (fun le10 => Option.bind (F_XReader_sees sh p8 o 58) (fun p11 => (if p11.1 = 0 then zoS (sh o) 7 (fun le17 => zoS (sh o) 7 (fun le19 => T_XReader_refuse sh (p11.2) o 1 ((p11.2).1 o 5))) else zoS (sh o) 7 (fun le14 => Option.bind (F_XReader_step sh (p11.2) o 1) (fun p15 => none))))))) else none))))
set_option maxHeartbeats 4000000 in
set_option maxRecDepth 100000 in
theorem kT_XReader_needName (l : Launch) (D : va_G) (tA : Nat → ClassId) (b : Nat) (sh : zSh) (n : Nat) (hl : l.stackTraces = false) {mm : zMem} {o : Nat} {x0_ : Nat} {r : zMem} (h : T_XReader_needName sh mm o x0_ = some r) : zMT l D tA b zy_XReader_needName zb_XReader_needName 2 none 7 112 1 6 [.ref (b + o), .ref (D.2 1000 x0_)] (zW tA b sh mm) n "java/lang/IllegalArgumentException" (zW tA b sh r) (n + 1) := by
  unfold T_XReader_needName at h
  refine zMT_of (own := "OrreryBox$Reader") (plainFor_of_name (by decide)) rfl (Nat.le_of_ble_eq_true rfl) (fun p e s m below meth c F hno hH => ?_)
  refine zr_aload_n F zd_XReader_needName_0 rfl ?_
  refine zr_aload_n F zd_XReader_needName_1 rfl ?_
  obtain ⟨le2, hs1, h⟩ := zoS_s h
  obtain ⟨p3, ep3, h⟩ := zoB_s h
  refine zr_callV1 F (k_XReader_seesWord l D tA b sh _ ep3) zd_XReader_needName_2 (zW_o hs1 (by decide)) rfl zs_XReader_57 rfl zq_XReader_seesWord rfl rfl ⟨(Nat.le_of_ble_eq_true rfl), (Nat.le_of_ble_eq_true rfl)⟩ (Nat.le_of_ble_eq_true rfl) ⟨(Nat.le_of_ble_eq_true rfl), (Nat.le_of_ble_eq_true rfl)⟩ ?_
  refine zr_if_ne F 17 zd_XReader_needName_5 (by decide) (fun hb4 => ?_) (fun hb4 => ?_)
  ·
    rw [if_neg hb4] at h
    refine zr_aload_n F zd_XReader_needName_17 rfl ?_
    refine zr_aload_n F zd_XReader_needName_18 rfl ?_
    obtain ⟨hg5, h⟩ := zoT_s h
    refine zr_callT F hg5 (c_JString_length l D tA b _ _ x0_ hg5) zd_XReader_needName_19 zs_XReader_289 rfl zq_JString_length rfl rfl ⟨(Nat.le_of_ble_eq_true rfl), (Nat.le_of_ble_eq_true rfl)⟩ (Nat.le_of_ble_eq_true rfl) ⟨(Nat.le_of_ble_eq_true rfl), (Nat.le_of_ble_eq_true rfl)⟩ ?_
    refine zr_pcn 22 rfl ?_
    refine zr_iconstv (v := 2) F zd_XReader_needName_22 (by decide) ?_
    refine zr_iadd F zd_XReader_needName_23 ?_
    obtain ⟨le7, hs6, h⟩ := zoS_s h
    obtain ⟨p8, ep8, h⟩ := zoB_s h
    refine zr_callV0 F (k_XReader_step l D tA b sh _ ep8) zd_XReader_needName_24 (zW_o hs6 (by decide)) rfl zs_XReader_41 rfl zq_XReader_step rfl rfl ⟨(Nat.le_of_ble_eq_true rfl), (Nat.le_of_ble_eq_true rfl)⟩ (Nat.le_of_ble_eq_true rfl) ⟨(Nat.le_of_ble_eq_true rfl), (Nat.le_of_ble_eq_true rfl)⟩ ?_
    refine zr_aload_n F zd_XReader_needName_27 rfl ?_
    refine zr_bipushv (v := 58) F zd_XReader_needName_28 (by decide) ?_
    obtain ⟨le10, hs9, h⟩ := zoS_s h
    obtain ⟨p11, ep11, h⟩ := zoB_s h
    refine zr_callV1 F (k_XReader_sees l D tA b sh _ ep11) zd_XReader_needName_30 (zW_o hs9 (by decide)) rfl zs_XReader_49 rfl zq_XReader_sees rfl rfl ⟨(Nat.le_of_ble_eq_true rfl), (Nat.le_of_ble_eq_true rfl)⟩ (Nat.le_of_ble_eq_true rfl) ⟨(Nat.le_of_ble_eq_true rfl), (Nat.le_of_ble_eq_true rfl)⟩ ?_
    refine zr_if_ne F 45 zd_XReader_needName_33 (by decide) (fun hb12 => ?_) (fun hb12 => ?_)
    ·
      rw [if_neg hb12] at h
      refine zr_aload_n F zd_XReader_needName_45 rfl ?_
      refine zr_pcn 46 rfl ?_
      refine zr_iconstv (v := 1) F zd_XReader_needName_46 (by decide) ?_
      obtain ⟨le14, hs13, h⟩ := zoS_s h
      obtain ⟨p15, ep15, h⟩ := zoB_s h
      refine zr_callV0 F (k_XReader_step l D tA b sh _ ep15) zd_XReader_needName_47 (zW_o hs13 (by decide)) rfl zs_XReader_41 rfl zq_XReader_step rfl rfl ⟨(Nat.le_of_ble_eq_true rfl), (Nat.le_of_ble_eq_true rfl)⟩ (Nat.le_of_ble_eq_true rfl) ⟨(Nat.le_of_ble_eq_true rfl), (Nat.le_of_ble_eq_true rfl)⟩ ?_
      cases h
    ·
      rw [if_pos hb12] at h
      refine zr_aload_n F zd_XReader_needName_36 rfl ?_
      refine zr_iconstv (v := 1) F zd_XReader_needName_37 (by decide) ?_
      refine zr_aload_n F zd_XReader_needName_38 rfl ?_
      obtain ⟨le17, hs16, h⟩ := zoS_s h
      refine zr_get F 7 5 zd_XReader_needName_39 (zW_o hs16 (by decide)) rfl (by decide) zw_53 rfl (by rfl) ?_
      obtain ⟨le19, hs18, h⟩ := zoS_s h
      exact zr_thrV F hno (kT_XReader_refuse l D tA b sh _ hl h) zd_XReader_needName_42 (zW_o hs18 (by decide)) rfl zs_XReader_77 rfl zq_XReader_refuse rfl rfl ⟨(Nat.le_of_ble_eq_true rfl), (Nat.le_of_ble_eq_true rfl)⟩ (Nat.le_of_ble_eq_true rfl) ⟨(Nat.le_of_ble_eq_true rfl), (Nat.le_of_ble_eq_true rfl)⟩ ⟨(Nat.le_of_ble_eq_true rfl), (Nat.le_of_ble_eq_true rfl)⟩
  ·
    rw [if_pos hb4] at h
    refine zr_pcn 8 rfl ?_
    refine zr_aload_n F zd_XReader_needName_8 rfl ?_
    refine zr_iconstv (v := 1) F zd_XReader_needName_9 (by decide) ?_
    refine zr_aload_n F zd_XReader_needName_10 rfl ?_
    obtain ⟨le22, hs21, h⟩ := zoS_s h
    refine zr_get F 7 5 zd_XReader_needName_11 (zW_o hs21 (by decide)) rfl (by decide) zw_53 rfl (by rfl) ?_
    obtain ⟨le24, hs23, h⟩ := zoS_s h
    exact zr_thrV F hno (kT_XReader_refuse l D tA b sh _ hl h) zd_XReader_needName_14 (zW_o hs23 (by decide)) rfl zs_XReader_77 rfl zq_XReader_refuse rfl rfl ⟨(Nat.le_of_ble_eq_true rfl), (Nat.le_of_ble_eq_true rfl)⟩ (Nat.le_of_ble_eq_true rfl) ⟨(Nat.le_of_ble_eq_true rfl), (Nat.le_of_ble_eq_true rfl)⟩ ⟨(Nat.le_of_ble_eq_true rfl), (Nat.le_of_ble_eq_true rfl)⟩
abbrev zb_XReader_takes : ByteArray := prog_8_method_18_code
def zy_XReader_takes : MethodName := ⟨"OrreryBox$Reader", "takes", "(C)Z"⟩
theorem zc_XReader_takes : Cond.code zy_XReader_takes zb_XReader_takes 3 (some .boolean) ∈ gw := gw_t 1200 (by decide +kernel) rfl
theorem zq_XReader_takes : zy_XReader_takes.cls ≠ "java/lang/invoke/MethodHandle" ∧ zy_XReader_takes.cls ≠ "java/lang/invoke/VarHandle" ∧ (parseMethodDescriptor zy_XReader_takes.desc).map (fun d => d.parameters.length) = some 1 := by decide +kernel
theorem zd_XReader_takes_0 : decode zb_XReader_takes 0 = .ok (.aload_n 0, 1) := by decide +kernel
theorem zd_XReader_takes_1 : decode zb_XReader_takes 1 = .ok (.iload_n 1, 1) := by decide +kernel
theorem zd_XReader_takes_2 : decode zb_XReader_takes 2 = .ok (.invokevirtual 49, 3) := by decide +kernel
theorem zd_XReader_takes_5 : decode zb_XReader_takes 5 = .ok (.istore_n 2, 1) := by decide +kernel
theorem zd_XReader_takes_6 : decode zb_XReader_takes 6 = .ok (.aload_n 0, 1) := by decide +kernel
theorem zd_XReader_takes_7 : decode zb_XReader_takes 7 = .ok (.iload_n 2, 1) := by decide +kernel
theorem zd_XReader_takes_8 : decode zb_XReader_takes 8 = .ok (.ifCond .eq 7, 3) := by decide +kernel
theorem zd_XReader_takes_11 : decode zb_XReader_takes 11 = .ok (.iconst 1, 1) := by decide +kernel
theorem zd_XReader_takes_12 : decode zb_XReader_takes 12 = .ok (.goto 4, 3) := by decide +kernel
theorem zd_XReader_takes_15 : decode zb_XReader_takes 15 = .ok (.iconst 0, 1) := by decide +kernel
theorem zd_XReader_takes_16 : decode zb_XReader_takes 16 = .ok (.invokevirtual 41, 3) := by decide +kernel
theorem zd_XReader_takes_19 : decode zb_XReader_takes 19 = .ok (.iload_n 2, 1) := by decide +kernel
theorem zd_XReader_takes_20 : decode zb_XReader_takes 20 = .ok (.ireturn, 1) := by decide +kernel
def F_XReader_takes (sh : zSh) (mm : zMem) (o : Nat) (x0_ : Int32) : Option (Int32 × zMem) := zoS (sh o) 7 (fun le2 => Option.bind (F_XReader_sees sh mm o x0_) (fun p3 => (if p3.1 = 0 then zoS (sh o) 7 (fun le6 => Option.bind (F_XReader_step sh (p3.2) o 0) (fun p7 => (if vp_nar .boolean (p3.1) = (p3.1) then some (p3.1, p7) else none))) else zoS (sh o) 7 (fun le10 => Option.bind (F_XReader_step sh (p3.2) o 1) (fun p11 => (if vp_nar .boolean (p3.1) = (p3.1) then some (p3.1, p11) else none))))))
set_option maxHeartbeats 4000000 in
set_option maxRecDepth 100000 in
theorem k_XReader_takes (l : Launch) (D : va_G) (tA : Nat → ClassId) (b : Nat) (sh : zSh) (n : Nat) {mm : zMem} {o : Nat} {x0_ : Int32} {r : (Int32 × zMem)} (h : F_XReader_takes sh mm o x0_ = some r) : zM l D tA b zy_XReader_takes zb_XReader_takes 3 (some .boolean) 1 21 0 0 [.ref (b + o), .int x0_] (zW tA b sh mm) n (zE (some (.int (r.1))) (zW tA b sh r.2) n) := by
  unfold F_XReader_takes at h
  refine zM_of (own := "OrreryBox$Reader") (plainFor_of_name (by decide)) rfl (Nat.le_of_ble_eq_true rfl) (fun p e s m below meth c F hr hin hH => ?_)
  refine zr_aload_n F zd_XReader_takes_0 rfl ?_
  refine zr_iload_n F zd_XReader_takes_1 rfl ?_
  obtain ⟨le2, hs1, h⟩ := zoS_s h
  obtain ⟨p3, ep3, h⟩ := zoB_s h
  refine zr_callV1 F (k_XReader_sees l D tA b sh _ ep3) zd_XReader_takes_2 (zW_o hs1 (by decide)) rfl zs_XReader_49 rfl zq_XReader_sees rfl rfl ⟨(Nat.le_of_ble_eq_true rfl), (Nat.le_of_ble_eq_true rfl)⟩ (Nat.le_of_ble_eq_true rfl) ⟨(Nat.le_of_ble_eq_true rfl), (Nat.le_of_ble_eq_true rfl)⟩ ?_
  refine zr_istore_n F zd_XReader_takes_5 (by decide) ?_
  refine zr_aload_n F zd_XReader_takes_6 rfl ?_
  refine zr_iload_n F zd_XReader_takes_7 rfl ?_
  refine zr_if_eq F 15 zd_XReader_takes_8 (by decide) (fun hb4 => ?_) (fun hb4 => ?_)
  ·
    rw [if_pos hb4] at h
    refine zr_pcn 15 rfl ?_
    refine zr_iconstv (v := 0) F zd_XReader_takes_15 (by decide) ?_
    obtain ⟨le6, hs5, h⟩ := zoS_s h
    obtain ⟨p7, ep7, h⟩ := zoB_s h
    refine zr_callV0 F (k_XReader_step l D tA b sh _ ep7) zd_XReader_takes_16 (zW_o hs5 (by decide)) rfl zs_XReader_41 rfl zq_XReader_step rfl rfl ⟨(Nat.le_of_ble_eq_true rfl), (Nat.le_of_ble_eq_true rfl)⟩ (Nat.le_of_ble_eq_true rfl) ⟨(Nat.le_of_ble_eq_true rfl), (Nat.le_of_ble_eq_true rfl)⟩ ?_
    refine zr_iload_n F zd_XReader_takes_19 rfl ?_
    obtain ⟨hn8, h⟩ := zoT_s h
    obtain rfl := Option.some.inj h
    exact zr_zret F hr (zx_narZ hn8) zd_XReader_takes_20 (Nat.le_of_ble_eq_true rfl) (Nat.le_of_ble_eq_true rfl) ⟨rfl, rfl, rfl⟩
  ·
    rw [if_neg hb4] at h
    refine zr_iconstv (v := 1) F zd_XReader_takes_11 (by decide) ?_
    refine zr_goto F 16 zd_XReader_takes_12 (by decide) ?_
    obtain ⟨le10, hs9, h⟩ := zoS_s h
    obtain ⟨p11, ep11, h⟩ := zoB_s h
    refine zr_callV0 F (k_XReader_step l D tA b sh _ ep11) zd_XReader_takes_16 (zW_o hs9 (by decide)) rfl zs_XReader_41 rfl zq_XReader_step rfl rfl ⟨(Nat.le_of_ble_eq_true rfl), (Nat.le_of_ble_eq_true rfl)⟩ (Nat.le_of_ble_eq_true rfl) ⟨(Nat.le_of_ble_eq_true rfl), (Nat.le_of_ble_eq_true rfl)⟩ ?_
    refine zr_iload_n F zd_XReader_takes_19 rfl ?_
    refine zr_pcn 20 rfl ?_
    obtain ⟨hn12, h⟩ := zoT_s h
    obtain rfl := Option.some.inj h
    exact zr_zret F hr (zx_narZ hn12) zd_XReader_takes_20 (Nat.le_of_ble_eq_true rfl) (Nat.le_of_ble_eq_true rfl) ⟨rfl, rfl, rfl⟩
def F_XReader_need (sh : zSh) (mm : zMem) (o : Nat) (x0_ : Int32) : Option zMem := zoS (sh o) 7 (fun le2 => Option.bind (F_XReader_sees sh mm o x0_) (fun p3 => (if p3.1 = 0 then zoS (sh o) 7 (fun le9 => zoS (sh o) 7 (fun le11 => none)) else zoS (sh o) 7 (fun le6 => Option.bind (F_XReader_step sh (p3.2) o 1) (fun p7 => some p7)))))
set_option maxHeartbeats 4000000 in
set_option maxRecDepth 100000 in
theorem k_XReader_need (l : Launch) (D : va_G) (tA : Nat → ClassId) (b : Nat) (sh : zSh) (n : Nat) {mm : zMem} {o : Nat} {x0_ : Int32} {r : zMem} (h : F_XReader_need sh mm o x0_ = some r) : zM l D tA b zy_XReader_need zb_XReader_need 2 none 1 22 0 0 [.ref (b + o), .int x0_] (zW tA b sh mm) n (zE none (zW tA b sh r) n) := by
  unfold F_XReader_need at h
  refine zM_of (own := "OrreryBox$Reader") (plainFor_of_name (by decide)) rfl (Nat.le_of_ble_eq_true rfl) (fun p e s m below meth c F hr hin hH => ?_)
  refine zr_aload_n F zd_XReader_need_0 rfl ?_
  refine zr_iload_n F zd_XReader_need_1 rfl ?_
  obtain ⟨le2, hs1, h⟩ := zoS_s h
  obtain ⟨p3, ep3, h⟩ := zoB_s h
  refine zr_callV1 F (k_XReader_sees l D tA b sh _ ep3) zd_XReader_need_2 (zW_o hs1 (by decide)) rfl zs_XReader_49 rfl zq_XReader_sees rfl rfl ⟨(Nat.le_of_ble_eq_true rfl), (Nat.le_of_ble_eq_true rfl)⟩ (Nat.le_of_ble_eq_true rfl) ⟨(Nat.le_of_ble_eq_true rfl), (Nat.le_of_ble_eq_true rfl)⟩ ?_
  refine zr_if_ne F 17 zd_XReader_need_5 (by decide) (fun hb4 => ?_) (fun hb4 => ?_)
  ·
    rw [if_neg hb4] at h
    refine zr_aload_n F zd_XReader_need_17 rfl ?_
    refine zr_iconstv (v := 1) F zd_XReader_need_18 (by decide) ?_
    obtain ⟨le6, hs5, h⟩ := zoS_s h
    obtain ⟨p7, ep7, h⟩ := zoB_s h
    refine zr_callV0 F (k_XReader_step l D tA b sh _ ep7) zd_XReader_need_19 (zW_o hs5 (by decide)) rfl zs_XReader_41 rfl zq_XReader_step rfl rfl ⟨(Nat.le_of_ble_eq_true rfl), (Nat.le_of_ble_eq_true rfl)⟩ (Nat.le_of_ble_eq_true rfl) ⟨(Nat.le_of_ble_eq_true rfl), (Nat.le_of_ble_eq_true rfl)⟩ ?_
    refine zr_pcn 22 rfl ?_
    obtain rfl := Option.some.inj h
    exact zr_vret F hr zd_XReader_need_22 (Nat.le_of_ble_eq_true rfl) (Nat.le_of_ble_eq_true rfl) ⟨rfl, rfl, rfl⟩
  ·
    rw [if_pos hb4] at h
    refine zr_aload_n F zd_XReader_need_8 rfl ?_
    refine zr_iconstv (v := 1) F zd_XReader_need_9 (by decide) ?_
    refine zr_aload_n F zd_XReader_need_10 rfl ?_
    obtain ⟨le9, hs8, h⟩ := zoS_s h
    refine zr_get F 7 5 zd_XReader_need_11 (zW_o hs8 (by decide)) rfl (by decide) zw_53 rfl (by rfl) ?_
    obtain ⟨le11, hs10, h⟩ := zoS_s h
    cases h
def T_XReader_need (sh : zSh) (mm : zMem) (o : Nat) (x0_ : Int32) : Option zMem := zoS (sh o) 7 (fun le2 => Option.bind (F_XReader_sees sh mm o x0_) (fun p3 => (if p3.1 = 0 then zoS (sh o) 7 (fun le9 => zoS (sh o) 7 (fun le11 => T_XReader_refuse sh (p3.2) o 1 ((p3.2).1 o 5))) else zoS (sh o) 7 (fun le6 => Option.bind (F_XReader_step sh (p3.2) o 1) (fun p7 => none)))))
set_option maxHeartbeats 4000000 in
set_option maxRecDepth 100000 in
theorem kT_XReader_need (l : Launch) (D : va_G) (tA : Nat → ClassId) (b : Nat) (sh : zSh) (n : Nat) (hl : l.stackTraces = false) {mm : zMem} {o : Nat} {x0_ : Int32} {r : zMem} (h : T_XReader_need sh mm o x0_ = some r) : zMT l D tA b zy_XReader_need zb_XReader_need 2 none 7 112 1 6 [.ref (b + o), .int x0_] (zW tA b sh mm) n "java/lang/IllegalArgumentException" (zW tA b sh r) (n + 1) := by
  unfold T_XReader_need at h
  refine zMT_of (own := "OrreryBox$Reader") (plainFor_of_name (by decide)) rfl (Nat.le_of_ble_eq_true rfl) (fun p e s m below meth c F hno hH => ?_)
  refine zr_aload_n F zd_XReader_need_0 rfl ?_
  refine zr_iload_n F zd_XReader_need_1 rfl ?_
  obtain ⟨le2, hs1, h⟩ := zoS_s h
  obtain ⟨p3, ep3, h⟩ := zoB_s h
  refine zr_callV1 F (k_XReader_sees l D tA b sh _ ep3) zd_XReader_need_2 (zW_o hs1 (by decide)) rfl zs_XReader_49 rfl zq_XReader_sees rfl rfl ⟨(Nat.le_of_ble_eq_true rfl), (Nat.le_of_ble_eq_true rfl)⟩ (Nat.le_of_ble_eq_true rfl) ⟨(Nat.le_of_ble_eq_true rfl), (Nat.le_of_ble_eq_true rfl)⟩ ?_
  refine zr_if_ne F 17 zd_XReader_need_5 (by decide) (fun hb4 => ?_) (fun hb4 => ?_)
  ·
    rw [if_neg hb4] at h
    refine zr_aload_n F zd_XReader_need_17 rfl ?_
    refine zr_iconstv (v := 1) F zd_XReader_need_18 (by decide) ?_
    obtain ⟨le6, hs5, h⟩ := zoS_s h
    obtain ⟨p7, ep7, h⟩ := zoB_s h
    refine zr_callV0 F (k_XReader_step l D tA b sh _ ep7) zd_XReader_need_19 (zW_o hs5 (by decide)) rfl zs_XReader_41 rfl zq_XReader_step rfl rfl ⟨(Nat.le_of_ble_eq_true rfl), (Nat.le_of_ble_eq_true rfl)⟩ (Nat.le_of_ble_eq_true rfl) ⟨(Nat.le_of_ble_eq_true rfl), (Nat.le_of_ble_eq_true rfl)⟩ ?_
    refine zr_pcn 22 rfl ?_
    cases h
  ·
    rw [if_pos hb4] at h
    refine zr_aload_n F zd_XReader_need_8 rfl ?_
    refine zr_iconstv (v := 1) F zd_XReader_need_9 (by decide) ?_
    refine zr_aload_n F zd_XReader_need_10 rfl ?_
    obtain ⟨le9, hs8, h⟩ := zoS_s h
    refine zr_get F 7 5 zd_XReader_need_11 (zW_o hs8 (by decide)) rfl (by decide) zw_53 rfl (by rfl) ?_
    obtain ⟨le11, hs10, h⟩ := zoS_s h
    exact zr_thrV F hno (kT_XReader_refuse l D tA b sh _ hl h) zd_XReader_need_14 (zW_o hs10 (by decide)) rfl zs_XReader_77 rfl zq_XReader_refuse rfl rfl ⟨(Nat.le_of_ble_eq_true rfl), (Nat.le_of_ble_eq_true rfl)⟩ (Nat.le_of_ble_eq_true rfl) ⟨(Nat.le_of_ble_eq_true rfl), (Nat.le_of_ble_eq_true rfl)⟩ ⟨(Nat.le_of_ble_eq_true rfl), (Nat.le_of_ble_eq_true rfl)⟩
theorem zw_220 : (Jvm.Cond.fieldLink "OrreryBox$Scene" (82 : Nat) "OrreryBox$Node" "hidden" "Z") ∈ gw := gw_t 220 (by decide +kernel) rfl
theorem zw_224 : (Jvm.Cond.fieldLink "OrreryBox$Scene" (88 : Nat) "OrreryBox$Node" "shown" "Z") ∈ gw := gw_t 224 (by decide +kernel) rfl
theorem zf_I_3_3 (b : Nat) (m : zMem) (k : Nat) (v : Int32) : (zfl b 3 m k).set 3 (.int v) = zfl b 3 (mI m k 3 v) k := by simp [zfl, mI, upd, vp_updL]
theorem zw_214 : (Jvm.Cond.fieldLink "OrreryBox$Scene" (85 : Nat) "OrreryBox$Node" "parent" "I") ∈ gw := gw_t 214 (by decide +kernel) rfl
theorem zw_626 : (Jvm.Cond.methodLink "OrreryBox$Scene" (94 : Nat) ({ cls := "OrreryBox$Node", name := "placeLocal", desc := "([I)V" } : Jvm.MethodName)) ∈ gw := gw_t 626 (by decide +kernel) rfl
theorem zw_627 : (Jvm.Cond.instanceMethod ({ cls := "OrreryBox$Node", name := "placeLocal", desc := "([I)V" } : Jvm.MethodName)) ∈ gw := gw_t 627 (by decide +kernel) rfl
theorem zw_628 : (Jvm.Cond.selects "OrreryBox$Node" ({ cls := "OrreryBox$Node", name := "placeLocal", desc := "([I)V" } : Jvm.MethodName) ({ cls := "OrreryBox$Node", name := "placeLocal", desc := "([I)V" } : Jvm.MethodName)) ∈ gw := gw_t 628 (by decide +kernel) rfl
theorem zs_XScene_94 : zwV "OrreryBox$Scene" 94 "OrreryBox$Node" zy_XNode_placeLocal zb_XNode_placeLocal 4 none := ⟨zw_626, zw_627, zw_628, zw_8, zc_XNode_placeLocal⟩
theorem zw_231 : (Jvm.Cond.fieldLink "OrreryBox$Scene" (91 : Nat) "OrreryBox$Node" "placing" "[I") ∈ gw := gw_t 231 (by decide +kernel) rfl
theorem zw_657 : (Jvm.Cond.methodLink "OrreryBox$Scene" (98 : Nat) ({ cls := "OrreryBox$Fixed", name := "multiply", desc := "([I[I[I)V" } : Jvm.MethodName)) ∈ gw := gw_t 657 (by decide +kernel) rfl
theorem zw_658 : (Jvm.Cond.static ({ cls := "OrreryBox$Fixed", name := "multiply", desc := "([I[I[I)V" } : Jvm.MethodName)) ∈ gw := gw_t 658 (by decide +kernel) rfl
theorem zs_XScene_98 : zwS "OrreryBox$Scene" 98 zy_XFixed_multiply zb_XFixed_multiply 7 none := ⟨zw_657, zw_658, zw_27, zc_XFixed_multiply⟩
def L_XScene_placeNodes_2 (sh : zSh) (fuel : Nat) (v0 : Nat) (v1 : Int32) (mm : zMem) : Option (Nat × Int32 × zMem) := match fuel with
  | 0 => none
  | fu + 1 => zoS (sh v0) 8 (fun le2 => Option.bind (mm.2.2 v0 0) (fun a3 => zoS (sh a3) 100 (fun le5 => if (3 : Int32) < 0 ∨ le5 ≤ (3 : Int32).toNatClampNeg then none else (if (mm.1 a3 (3 : Int32).toNatClampNeg) ≤ v1 then some (v0, v1, mm) else zoS (sh v0) 8 (fun le9 => (if (mm.1 v0 9) = 0 then zoS (sh v0) 8 (fun le12 => Option.bind (mm.2.2 v0 4) (fun a13 => zoR (sh a13) (fun t17 le15 => if (v1 : Int32) < 0 ∨ le15 ≤ (v1 : Int32).toNatClampNeg then none else Option.bind (mm.2.2 a13 (v1 : Int32).toNatClampNeg) (fun a18 => zoS (sh a18) 3 (fun le20 => (if (mm.1 a18 2) = 0 then zoS (sh a18) 3 (fun le62 => (if (mm.1 a18 0) < 0 then zoS (sh a18) 3 (fun le65 => zoL (mI mm a18 3 1) (fun mm66 => zoS (sh a18) 3 (fun le68 => (if 0 ≤ (mm66.1 a18 0) then zoS (sh v0) 8 (fun le71 => Option.bind (mm66.2.2 v0 10) (fun a72 => zoS (sh a18) 3 (fun le74 => Option.bind (F_XNode_placeLocal sh mm66 a18 a72) (fun p75 => zoS (sh v0) 8 (fun le77 => Option.bind (p75.2.2 v0 4) (fun a78 => zoS (sh a18) 3 (fun le80 => zoL (p75.1 a18 0) (fun i81 => zoR (sh a78) (fun t85 le83 => if (i81 : Int32) < 0 ∨ le83 ≤ (i81 : Int32).toNatClampNeg then none else Option.bind (p75.2.2 a78 (i81 : Int32).toNatClampNeg) (fun a86 => zoS (sh a86) 3 (fun le88 => Option.bind (p75.2.2 a86 5) (fun a89 => zoS (sh v0) 8 (fun le91 => Option.bind (p75.2.2 v0 10) (fun a92 => zoS (sh a18) 3 (fun le94 => Option.bind (p75.2.2 a18 5) (fun a95 => Option.bind (F_XFixed_multiply sh p75 a89 a92 a95) (fun p96 => L_XScene_placeNodes_2 sh fu v0 (v1 + 1) p96))))))))))))))))) else zoS (sh a18) 3 (fun le98 => Option.bind (mm66.2.2 a18 5) (fun a99 => zoS (sh a18) 3 (fun le101 => Option.bind (F_XNode_placeLocal sh mm66 a18 a99) (fun p102 => L_XScene_placeNodes_2 sh fu v0 (v1 + 1) p102)))))))) else zoS (sh v0) 8 (fun le104 => Option.bind (mm.2.2 v0 4) (fun a105 => zoS (sh a18) 3 (fun le107 => zoL (mm.1 a18 0) (fun i108 => zoR (sh a105) (fun t112 le110 => if (i108 : Int32) < 0 ∨ le110 ≤ (i108 : Int32).toNatClampNeg then none else Option.bind (mm.2.2 a105 (i108 : Int32).toNatClampNeg) (fun a113 => zoS (sh a113) 3 (fun le115 => (if (mm.1 a113 3) = 0 then zoS (sh a18) 3 (fun le118 => zoL (mI mm a18 3 0) (fun mm119 => zoS (sh a18) 3 (fun le121 => (if 0 ≤ (mm119.1 a18 0) then zoS (sh v0) 8 (fun le124 => Option.bind (mm119.2.2 v0 10) (fun a125 => zoS (sh a18) 3 (fun le127 => Option.bind (F_XNode_placeLocal sh mm119 a18 a125) (fun p128 => zoS (sh v0) 8 (fun le130 => Option.bind (p128.2.2 v0 4) (fun a131 => zoS (sh a18) 3 (fun le133 => zoL (p128.1 a18 0) (fun i134 => zoR (sh a131) (fun t138 le136 => if (i134 : Int32) < 0 ∨ le136 ≤ (i134 : Int32).toNatClampNeg then none else Option.bind (p128.2.2 a131 (i134 : Int32).toNatClampNeg) (fun a139 => zoS (sh a139) 3 (fun le141 => Option.bind (p128.2.2 a139 5) (fun a142 => zoS (sh v0) 8 (fun le144 => Option.bind (p128.2.2 v0 10) (fun a145 => zoS (sh a18) 3 (fun le147 => Option.bind (p128.2.2 a18 5) (fun a148 => Option.bind (F_XFixed_multiply sh p128 a142 a145 a148) (fun p149 => L_XScene_placeNodes_2 sh fu v0 (v1 + 1) p149))))))))))))))))) else zoS (sh a18) 3 (fun le151 => Option.bind (mm119.2.2 a18 5) (fun a152 => zoS (sh a18) 3 (fun le154 => Option.bind (F_XNode_placeLocal sh mm119 a18 a152) (fun p155 => L_XScene_placeNodes_2 sh fu v0 (v1 + 1) p155)))))))) else zoS (sh a18) 3 (fun le157 => zoL (mI mm a18 3 1) (fun mm158 => zoS (sh a18) 3 (fun le160 => (if 0 ≤ (mm158.1 a18 0) then zoS (sh v0) 8 (fun le163 => Option.bind (mm158.2.2 v0 10) (fun a164 => zoS (sh a18) 3 (fun le166 => Option.bind (F_XNode_placeLocal sh mm158 a18 a164) (fun p167 => zoS (sh v0) 8 (fun le169 => Option.bind (p167.2.2 v0 4) (fun a170 => zoS (sh a18) 3 (fun le172 => zoL (p167.1 a18 0) (fun i173 => zoR (sh a170) (fun t177 le175 => if (i173 : Int32) < 0 ∨ le175 ≤ (i173 : Int32).toNatClampNeg then none else Option.bind (p167.2.2 a170 (i173 : Int32).toNatClampNeg) (fun a178 => zoS (sh a178) 3 (fun le180 => Option.bind (p167.2.2 a178 5) (fun a181 => zoS (sh v0) 8 (fun le183 => Option.bind (p167.2.2 v0 10) (fun a184 => zoS (sh a18) 3 (fun le186 => Option.bind (p167.2.2 a18 5) (fun a187 => Option.bind (F_XFixed_multiply sh p167 a181 a184 a187) (fun p188 => L_XScene_placeNodes_2 sh fu v0 (v1 + 1) p188))))))))))))))))) else zoS (sh a18) 3 (fun le190 => Option.bind (mm158.2.2 a18 5) (fun a191 => zoS (sh a18) 3 (fun le193 => Option.bind (F_XNode_placeLocal sh mm158 a18 a191) (fun p194 => L_XScene_placeNodes_2 sh fu v0 (v1 + 1) p194)))))))))))))))))) else zoS (sh a18) 3 (fun le23 => zoL (mI mm a18 3 0) (fun mm24 => zoS (sh a18) 3 (fun le26 => (if 0 ≤ (mm24.1 a18 0) then zoS (sh v0) 8 (fun le29 => Option.bind (mm24.2.2 v0 10) (fun a30 => zoS (sh a18) 3 (fun le32 => Option.bind (F_XNode_placeLocal sh mm24 a18 a30) (fun p33 => zoS (sh v0) 8 (fun le35 => Option.bind (p33.2.2 v0 4) (fun a36 => zoS (sh a18) 3 (fun le38 => zoL (p33.1 a18 0) (fun i39 => zoR (sh a36) (fun t43 le41 => if (i39 : Int32) < 0 ∨ le41 ≤ (i39 : Int32).toNatClampNeg then none else Option.bind (p33.2.2 a36 (i39 : Int32).toNatClampNeg) (fun a44 => zoS (sh a44) 3 (fun le46 => Option.bind (p33.2.2 a44 5) (fun a47 => zoS (sh v0) 8 (fun le49 => Option.bind (p33.2.2 v0 10) (fun a50 => zoS (sh a18) 3 (fun le52 => Option.bind (p33.2.2 a18 5) (fun a53 => Option.bind (F_XFixed_multiply sh p33 a47 a50 a53) (fun p54 => L_XScene_placeNodes_2 sh fu v0 (v1 + 1) p54))))))))))))))))) else zoS (sh a18) 3 (fun le56 => Option.bind (mm24.2.2 a18 5) (fun a57 => zoS (sh a18) 3 (fun le59 => Option.bind (F_XNode_placeLocal sh mm24 a18 a57) (fun p60 => L_XScene_placeNodes_2 sh fu v0 (v1 + 1) p60)))))))))))))) else some (v0, v1, mm)))))))
set_option maxHeartbeats 4000000 in
set_option maxRecDepth 100000 in
theorem lp_XScene_placeNodes_2 {p : Program} {l : Launch} {e : Env} {s : State} {m : MethodId} {args : Array Value} {below : List Frame} {meth : Method} {c : Code} {D : va_G} {tA : Nat → ClassId} {b n : Nat} {post : Option Value → zV → Nat → Prop} {sh : zSh} (F : zF p s m args meth c zb_XScene_placeNodes 3 "OrreryBox$Scene" D tA b) : ∀ (fuel : Nat) (v0 : Nat) (v1 : Int32) (mm : zMem) (r : Nat × Int32 × zMem), L_XScene_placeNodes_2 sh fuel v0 v1 mm = some r → (Z p l e { frames := 5, cells := 0, slots := 0, locals := 125 } s m args below meth c D b 3 (MQ below (zQ D b post) args s 0 0 (fun q => b ≤ q)) (zW tA b sh r.2.2) n 0 0 119 [(0, .ref (b + (r.1))), (1, .int (r.2.1))] []) → Z p l e { frames := 5, cells := 0, slots := 0, locals := 125 } s m args below meth c D b 3 (MQ below (zQ D b post) args s 0 0 (fun q => b ≤ q)) (zW tA b sh mm) n 0 0 2 [(0, .ref (b + v0)), (1, .int v1)] [] := by
  intro fuel
  induction fuel with
  | zero =>
    intro v0 v1 mm r h
    cases h
  | succ fu ih =>
    intro v0 v1 mm r h hx0
    rw [L_XScene_placeNodes_2] at h
    refine zr_iload_n F zd_XScene_placeNodes_2 rfl ?_
    refine zr_aload_n F zd_XScene_placeNodes_3 rfl ?_
    obtain ⟨le2, hs1, h⟩ := zoS_s h
    obtain ⟨a3, ea3, h⟩ := zoB_s h
    refine zr_get F 8 0 zd_XScene_placeNodes_4 (zW_o hs1 (by decide)) rfl (by decide) zw_281 rfl (by rfl) ?_
    refine zr_tor ea3 ?_
    refine zr_iconstv (v := 3) F zd_XScene_placeNodes_7 (by decide) ?_
    obtain ⟨le5, hs4, h⟩ := zoS_s h
    obtain ⟨hi6, h⟩ := zoI_s h
    refine zr_iald F zd_XScene_placeNodes_8 (zW_a0 hs4) hi6 ?_
    refine zr_pcn 9 rfl ?_
    refine zr_icmp_ge F 119 zd_XScene_placeNodes_9 (by decide) (fun hb7 => ?_) (fun hb7 => ?_)
    ·
      rw [if_pos hb7] at h
      obtain rfl := Option.some.inj h
      refine zr_loc (L' := [(0, .ref (b + v0)), (1, .int v1)]) ⟨rfl, rfl, trivial⟩ ?_
      exact hx0 
    ·
      rw [if_neg hb7] at h
      refine zr_aload_n F zd_XScene_placeNodes_12 rfl ?_
      obtain ⟨le9, hs8, h⟩ := zoS_s h
      refine zr_get F 8 9 zd_XScene_placeNodes_13 (zW_o hs8 (by decide)) rfl (by decide) zw_311 rfl (by rfl) ?_
      refine zr_if_ne F 119 zd_XScene_placeNodes_16 (by decide) (fun hb10 => ?_) (fun hb10 => ?_)
      ·
        rw [if_neg hb10] at h
        obtain rfl := Option.some.inj h
        refine zr_loc (L' := [(0, .ref (b + v0)), (1, .int v1)]) ⟨rfl, rfl, trivial⟩ ?_
        exact hx0 
      ·
        rw [if_pos hb10] at h
        refine zr_aload_n F zd_XScene_placeNodes_19 rfl ?_
        obtain ⟨le12, hs11, h⟩ := zoS_s h
        obtain ⟨a13, ea13, h⟩ := zoB_s h
        refine zr_get F 8 4 zd_XScene_placeNodes_20 (zW_o hs11 (by decide)) rfl (by decide) zw_295 rfl (by rfl) ?_
        refine zr_tor ea13 ?_
        refine zr_iload_n F zd_XScene_placeNodes_23 rfl ?_
        obtain ⟨t17, le15, hs14, h⟩ := zoR_s h
        obtain ⟨hi16, h⟩ := zoI_s h
        obtain ⟨a18, ea18, h⟩ := zoB_s h
        refine zr_aaldW F zd_XScene_placeNodes_24 hs14 hi16 ea18 ?_
        refine zr_pcn 25 rfl ?_
        refine zr_astore_n F zd_XScene_placeNodes_25 (by decide) ?_
        refine zr_aload_n F zd_XScene_placeNodes_26 rfl ?_
        refine zr_aload_n F zd_XScene_placeNodes_27 rfl ?_
        obtain ⟨le20, hs19, h⟩ := zoS_s h
        refine zr_get F 3 2 zd_XScene_placeNodes_28 (zW_o hs19 (by decide)) rfl (by decide) zw_220 rfl (by rfl) ?_
        refine zr_if_ne F 60 zd_XScene_placeNodes_31 (by decide) (fun hb21 => ?_) (fun hb21 => ?_)
        ·
          rw [if_neg hb21] at h
          refine zr_iconstv (v := 0) F zd_XScene_placeNodes_60 (by decide) ?_
          obtain ⟨le23, hs22, h⟩ := zoS_s h
          refine zr_put F 3 3 zd_XScene_placeNodes_61 (zW_o hs22 (by decide)) rfl (by decide) zw_224 rfl rfl rfl rfl (by exact (Nat.le_of_ble_eq_true rfl)) ?_
          obtain ⟨mm24, emm24, h⟩ := zoL_s h
          refine zr_norm (zW tA b sh mm24) _ (by rw [emm24]; exact zW_pI (v := 0) hs22 (by decide) (zf_I_3_3 b _ _ _)) rfl ?_
          refine zr_aload_n F zd_XScene_placeNodes_64 rfl ?_
          refine zr_pcn 65 rfl ?_
          obtain ⟨le26, hs25, h⟩ := zoS_s h
          refine zr_get F 3 0 zd_XScene_placeNodes_65 (zW_o hs25 (by decide)) rfl (by decide) zw_214 rfl (by rfl) ?_
          refine zr_if_ge F 82 zd_XScene_placeNodes_68 (by decide) (fun hb27 => ?_) (fun hb27 => ?_)
          ·
            rw [if_pos hb27] at h
            refine zr_aload_n F zd_XScene_placeNodes_82 rfl ?_
            refine zr_aload_n F zd_XScene_placeNodes_83 rfl ?_
            obtain ⟨le29, hs28, h⟩ := zoS_s h
            obtain ⟨a30, ea30, h⟩ := zoB_s h
            refine zr_get F 8 10 zd_XScene_placeNodes_84 (zW_o hs28 (by decide)) rfl (by decide) zw_313 rfl (by rfl) ?_
            refine zr_tor ea30 ?_
            obtain ⟨le32, hs31, h⟩ := zoS_s h
            obtain ⟨p33, ep33, h⟩ := zoB_s h
            refine zr_callV0 F (k_XNode_placeLocal l D tA b sh _ ep33) zd_XScene_placeNodes_87 (zW_o hs31 (by decide)) rfl zs_XScene_94 rfl zq_XNode_placeLocal rfl rfl ⟨(Nat.le_of_ble_eq_true rfl), (Nat.le_of_ble_eq_true rfl)⟩ (Nat.le_of_ble_eq_true rfl) ⟨(Nat.le_of_ble_eq_true rfl), (Nat.le_of_ble_eq_true rfl)⟩ ?_
            refine zr_aload_n F zd_XScene_placeNodes_90 rfl ?_
            obtain ⟨le35, hs34, h⟩ := zoS_s h
            obtain ⟨a36, ea36, h⟩ := zoB_s h
            refine zr_get F 8 4 zd_XScene_placeNodes_91 (zW_o hs34 (by decide)) rfl (by decide) zw_295 rfl (by rfl) ?_
            refine zr_tor ea36 ?_
            refine zr_pcn 94 rfl ?_
            refine zr_aload_n F zd_XScene_placeNodes_94 rfl ?_
            obtain ⟨le38, hs37, h⟩ := zoS_s h
            refine zr_get F 3 0 zd_XScene_placeNodes_95 (zW_o hs37 (by decide)) rfl (by decide) zw_214 rfl (by rfl) ?_
            obtain ⟨i39, ei39, h⟩ := zoL_s h
            rw [← ei39]
            obtain ⟨t43, le41, hs40, h⟩ := zoR_s h
            obtain ⟨hi42, h⟩ := zoI_s h
            obtain ⟨a44, ea44, h⟩ := zoB_s h
            refine zr_aaldW F zd_XScene_placeNodes_98 hs40 hi42 ea44 ?_
            obtain ⟨le46, hs45, h⟩ := zoS_s h
            obtain ⟨a47, ea47, h⟩ := zoB_s h
            refine zr_get F 3 5 zd_XScene_placeNodes_99 (zW_o hs45 (by decide)) rfl (by decide) zw_231 rfl (by rfl) ?_
            refine zr_tor ea47 ?_
            refine zr_aload_n F zd_XScene_placeNodes_102 rfl ?_
            obtain ⟨le49, hs48, h⟩ := zoS_s h
            obtain ⟨a50, ea50, h⟩ := zoB_s h
            refine zr_get F 8 10 zd_XScene_placeNodes_103 (zW_o hs48 (by decide)) rfl (by decide) zw_313 rfl (by rfl) ?_
            refine zr_tor ea50 ?_
            refine zr_aload_n F zd_XScene_placeNodes_106 rfl ?_
            obtain ⟨le52, hs51, h⟩ := zoS_s h
            obtain ⟨a53, ea53, h⟩ := zoB_s h
            refine zr_get F 3 5 zd_XScene_placeNodes_107 (zW_o hs51 (by decide)) rfl (by decide) zw_231 rfl (by rfl) ?_
            refine zr_tor ea53 ?_
            refine zr_pcn 110 rfl ?_
            obtain ⟨p54, ep54, h⟩ := zoB_s h
            refine zr_callS0 F (k_XFixed_multiply l D tA b sh _ ep54) zd_XScene_placeNodes_110 zs_XScene_98 zq_XFixed_multiply rfl rfl ⟨(Nat.le_of_ble_eq_true rfl), (Nat.le_of_ble_eq_true rfl)⟩ (Nat.le_of_ble_eq_true rfl) ⟨(Nat.le_of_ble_eq_true rfl), (Nat.le_of_ble_eq_true rfl)⟩ ?_
            refine zr_iinc (v := (v1 + 1)) F zd_XScene_placeNodes_113 rfl rfl (by decide) ?_
            refine zr_goto F 2 zd_XScene_placeNodes_116 (by decide) ?_
            refine zr_loc (L' := [(0, .ref (b + v0)), (1, .int (v1 + 1))]) ⟨rfl, rfl, trivial⟩ ?_
            exact ih _ _ _ _ h hx0
          ·
            rw [if_neg hb27] at h
            refine zr_aload_n F zd_XScene_placeNodes_71 rfl ?_
            refine zr_aload_n F zd_XScene_placeNodes_72 rfl ?_
            obtain ⟨le56, hs55, h⟩ := zoS_s h
            obtain ⟨a57, ea57, h⟩ := zoB_s h
            refine zr_get F 3 5 zd_XScene_placeNodes_73 (zW_o hs55 (by decide)) rfl (by decide) zw_231 rfl (by rfl) ?_
            refine zr_tor ea57 ?_
            obtain ⟨le59, hs58, h⟩ := zoS_s h
            obtain ⟨p60, ep60, h⟩ := zoB_s h
            refine zr_callV0 F (k_XNode_placeLocal l D tA b sh _ ep60) zd_XScene_placeNodes_76 (zW_o hs58 (by decide)) rfl zs_XScene_94 rfl zq_XNode_placeLocal rfl rfl ⟨(Nat.le_of_ble_eq_true rfl), (Nat.le_of_ble_eq_true rfl)⟩ (Nat.le_of_ble_eq_true rfl) ⟨(Nat.le_of_ble_eq_true rfl), (Nat.le_of_ble_eq_true rfl)⟩ ?_
            refine zr_goto F 113 zd_XScene_placeNodes_79 (by decide) ?_
            refine zr_pcn 113 rfl ?_
            refine zr_iinc (v := (v1 + 1)) F zd_XScene_placeNodes_113 rfl rfl (by decide) ?_
            refine zr_goto F 2 zd_XScene_placeNodes_116 (by decide) ?_
            refine zr_loc (L' := [(0, .ref (b + v0)), (1, .int (v1 + 1))]) ⟨rfl, rfl, trivial⟩ ?_
            exact ih _ _ _ _ h hx0
        ·
          rw [if_pos hb21] at h
          refine zr_aload_n F zd_XScene_placeNodes_34 rfl ?_
          obtain ⟨le62, hs61, h⟩ := zoS_s h
          refine zr_get F 3 0 zd_XScene_placeNodes_35 (zW_o hs61 (by decide)) rfl (by decide) zw_214 rfl (by rfl) ?_
          refine zr_if_lt F 56 zd_XScene_placeNodes_38 (by decide) (fun hb63 => ?_) (fun hb63 => ?_)
          ·
            rw [if_pos hb63] at h
            refine zr_iconstv (v := 1) F zd_XScene_placeNodes_56 (by decide) ?_
            refine zr_goto F 61 zd_XScene_placeNodes_57 (by decide) ?_
            obtain ⟨le65, hs64, h⟩ := zoS_s h
            refine zr_put F 3 3 zd_XScene_placeNodes_61 (zW_o hs64 (by decide)) rfl (by decide) zw_224 rfl rfl rfl rfl (by exact (Nat.le_of_ble_eq_true rfl)) ?_
            obtain ⟨mm66, emm66, h⟩ := zoL_s h
            refine zr_norm (zW tA b sh mm66) _ (by rw [emm66]; exact zW_pI (v := 1) hs64 (by decide) (zf_I_3_3 b _ _ _)) rfl ?_
            refine zr_pcn 64 rfl ?_
            refine zr_aload_n F zd_XScene_placeNodes_64 rfl ?_
            obtain ⟨le68, hs67, h⟩ := zoS_s h
            refine zr_get F 3 0 zd_XScene_placeNodes_65 (zW_o hs67 (by decide)) rfl (by decide) zw_214 rfl (by rfl) ?_
            refine zr_if_ge F 82 zd_XScene_placeNodes_68 (by decide) (fun hb69 => ?_) (fun hb69 => ?_)
            ·
              rw [if_pos hb69] at h
              refine zr_aload_n F zd_XScene_placeNodes_82 rfl ?_
              refine zr_aload_n F zd_XScene_placeNodes_83 rfl ?_
              obtain ⟨le71, hs70, h⟩ := zoS_s h
              obtain ⟨a72, ea72, h⟩ := zoB_s h
              refine zr_get F 8 10 zd_XScene_placeNodes_84 (zW_o hs70 (by decide)) rfl (by decide) zw_313 rfl (by rfl) ?_
              refine zr_tor ea72 ?_
              obtain ⟨le74, hs73, h⟩ := zoS_s h
              obtain ⟨p75, ep75, h⟩ := zoB_s h
              refine zr_callV0 F (k_XNode_placeLocal l D tA b sh _ ep75) zd_XScene_placeNodes_87 (zW_o hs73 (by decide)) rfl zs_XScene_94 rfl zq_XNode_placeLocal rfl rfl ⟨(Nat.le_of_ble_eq_true rfl), (Nat.le_of_ble_eq_true rfl)⟩ (Nat.le_of_ble_eq_true rfl) ⟨(Nat.le_of_ble_eq_true rfl), (Nat.le_of_ble_eq_true rfl)⟩ ?_
              refine zr_aload_n F zd_XScene_placeNodes_90 rfl ?_
              refine zr_pcn 91 rfl ?_
              obtain ⟨le77, hs76, h⟩ := zoS_s h
              obtain ⟨a78, ea78, h⟩ := zoB_s h
              refine zr_get F 8 4 zd_XScene_placeNodes_91 (zW_o hs76 (by decide)) rfl (by decide) zw_295 rfl (by rfl) ?_
              refine zr_tor ea78 ?_
              refine zr_aload_n F zd_XScene_placeNodes_94 rfl ?_
              obtain ⟨le80, hs79, h⟩ := zoS_s h
              refine zr_get F 3 0 zd_XScene_placeNodes_95 (zW_o hs79 (by decide)) rfl (by decide) zw_214 rfl (by rfl) ?_
              obtain ⟨i81, ei81, h⟩ := zoL_s h
              rw [← ei81]
              obtain ⟨t85, le83, hs82, h⟩ := zoR_s h
              obtain ⟨hi84, h⟩ := zoI_s h
              obtain ⟨a86, ea86, h⟩ := zoB_s h
              refine zr_aaldW F zd_XScene_placeNodes_98 hs82 hi84 ea86 ?_
              obtain ⟨le88, hs87, h⟩ := zoS_s h
              obtain ⟨a89, ea89, h⟩ := zoB_s h
              refine zr_get F 3 5 zd_XScene_placeNodes_99 (zW_o hs87 (by decide)) rfl (by decide) zw_231 rfl (by rfl) ?_
              refine zr_tor ea89 ?_
              refine zr_aload_n F zd_XScene_placeNodes_102 rfl ?_
              obtain ⟨le91, hs90, h⟩ := zoS_s h
              obtain ⟨a92, ea92, h⟩ := zoB_s h
              refine zr_get F 8 10 zd_XScene_placeNodes_103 (zW_o hs90 (by decide)) rfl (by decide) zw_313 rfl (by rfl) ?_
              refine zr_tor ea92 ?_
              refine zr_aload_n F zd_XScene_placeNodes_106 rfl ?_
              refine zr_pcn 107 rfl ?_
              obtain ⟨le94, hs93, h⟩ := zoS_s h
              obtain ⟨a95, ea95, h⟩ := zoB_s h
              refine zr_get F 3 5 zd_XScene_placeNodes_107 (zW_o hs93 (by decide)) rfl (by decide) zw_231 rfl (by rfl) ?_
              refine zr_tor ea95 ?_
              obtain ⟨p96, ep96, h⟩ := zoB_s h
              refine zr_callS0 F (k_XFixed_multiply l D tA b sh _ ep96) zd_XScene_placeNodes_110 zs_XScene_98 zq_XFixed_multiply rfl rfl ⟨(Nat.le_of_ble_eq_true rfl), (Nat.le_of_ble_eq_true rfl)⟩ (Nat.le_of_ble_eq_true rfl) ⟨(Nat.le_of_ble_eq_true rfl), (Nat.le_of_ble_eq_true rfl)⟩ ?_
              refine zr_iinc (v := (v1 + 1)) F zd_XScene_placeNodes_113 rfl rfl (by decide) ?_
              refine zr_goto F 2 zd_XScene_placeNodes_116 (by decide) ?_
              refine zr_loc (L' := [(0, .ref (b + v0)), (1, .int (v1 + 1))]) ⟨rfl, rfl, trivial⟩ ?_
              exact ih _ _ _ _ h hx0
            ·
              rw [if_neg hb69] at h
              refine zr_aload_n F zd_XScene_placeNodes_71 rfl ?_
              refine zr_aload_n F zd_XScene_placeNodes_72 rfl ?_
              obtain ⟨le98, hs97, h⟩ := zoS_s h
              obtain ⟨a99, ea99, h⟩ := zoB_s h
              refine zr_get F 3 5 zd_XScene_placeNodes_73 (zW_o hs97 (by decide)) rfl (by decide) zw_231 rfl (by rfl) ?_
              refine zr_tor ea99 ?_
              obtain ⟨le101, hs100, h⟩ := zoS_s h
              obtain ⟨p102, ep102, h⟩ := zoB_s h
              refine zr_callV0 F (k_XNode_placeLocal l D tA b sh _ ep102) zd_XScene_placeNodes_76 (zW_o hs100 (by decide)) rfl zs_XScene_94 rfl zq_XNode_placeLocal rfl rfl ⟨(Nat.le_of_ble_eq_true rfl), (Nat.le_of_ble_eq_true rfl)⟩ (Nat.le_of_ble_eq_true rfl) ⟨(Nat.le_of_ble_eq_true rfl), (Nat.le_of_ble_eq_true rfl)⟩ ?_
              refine zr_pcn 79 rfl ?_
              refine zr_goto F 113 zd_XScene_placeNodes_79 (by decide) ?_
              refine zr_iinc (v := (v1 + 1)) F zd_XScene_placeNodes_113 rfl rfl (by decide) ?_
              refine zr_goto F 2 zd_XScene_placeNodes_116 (by decide) ?_
              refine zr_loc (L' := [(0, .ref (b + v0)), (1, .int (v1 + 1))]) ⟨rfl, rfl, trivial⟩ ?_
              exact ih _ _ _ _ h hx0
          ·
            rw [if_neg hb63] at h
            refine zr_aload_n F zd_XScene_placeNodes_41 rfl ?_
            obtain ⟨le104, hs103, h⟩ := zoS_s h
            obtain ⟨a105, ea105, h⟩ := zoB_s h
            refine zr_get F 8 4 zd_XScene_placeNodes_42 (zW_o hs103 (by decide)) rfl (by decide) zw_295 rfl (by rfl) ?_
            refine zr_tor ea105 ?_
            refine zr_aload_n F zd_XScene_placeNodes_45 rfl ?_
            obtain ⟨le107, hs106, h⟩ := zoS_s h
            refine zr_get F 3 0 zd_XScene_placeNodes_46 (zW_o hs106 (by decide)) rfl (by decide) zw_214 rfl (by rfl) ?_
            obtain ⟨i108, ei108, h⟩ := zoL_s h
            rw [← ei108]
            obtain ⟨t112, le110, hs109, h⟩ := zoR_s h
            obtain ⟨hi111, h⟩ := zoI_s h
            obtain ⟨a113, ea113, h⟩ := zoB_s h
            refine zr_aaldW F zd_XScene_placeNodes_49 hs109 hi111 ea113 ?_
            refine zr_pcn 50 rfl ?_
            obtain ⟨le115, hs114, h⟩ := zoS_s h
            refine zr_get F 3 3 zd_XScene_placeNodes_50 (zW_o hs114 (by decide)) rfl (by decide) zw_224 rfl (by rfl) ?_
            refine zr_if_eq F 60 zd_XScene_placeNodes_53 (by decide) (fun hb116 => ?_) (fun hb116 => ?_)
            ·
              rw [if_pos hb116] at h
              refine zr_iconstv (v := 0) F zd_XScene_placeNodes_60 (by decide) ?_
              obtain ⟨le118, hs117, h⟩ := zoS_s h
              refine zr_put F 3 3 zd_XScene_placeNodes_61 (zW_o hs117 (by decide)) rfl (by decide) zw_224 rfl rfl rfl rfl (by exact (Nat.le_of_ble_eq_true rfl)) ?_
              obtain ⟨mm119, emm119, h⟩ := zoL_s h
              refine zr_norm (zW tA b sh mm119) _ (by rw [emm119]; exact zW_pI (v := 0) hs117 (by decide) (zf_I_3_3 b _ _ _)) rfl ?_
              refine zr_aload_n F zd_XScene_placeNodes_64 rfl ?_
              obtain ⟨le121, hs120, h⟩ := zoS_s h
              refine zr_get F 3 0 zd_XScene_placeNodes_65 (zW_o hs120 (by decide)) rfl (by decide) zw_214 rfl (by rfl) ?_
              refine zr_if_ge F 82 zd_XScene_placeNodes_68 (by decide) (fun hb122 => ?_) (fun hb122 => ?_)
              ·
                rw [if_pos hb122] at h
                refine zr_aload_n F zd_XScene_placeNodes_82 rfl ?_
                refine zr_pcn 83 rfl ?_
                refine zr_aload_n F zd_XScene_placeNodes_83 rfl ?_
                obtain ⟨le124, hs123, h⟩ := zoS_s h
                obtain ⟨a125, ea125, h⟩ := zoB_s h
                refine zr_get F 8 10 zd_XScene_placeNodes_84 (zW_o hs123 (by decide)) rfl (by decide) zw_313 rfl (by rfl) ?_
                refine zr_tor ea125 ?_
                obtain ⟨le127, hs126, h⟩ := zoS_s h
                obtain ⟨p128, ep128, h⟩ := zoB_s h
                refine zr_callV0 F (k_XNode_placeLocal l D tA b sh _ ep128) zd_XScene_placeNodes_87 (zW_o hs126 (by decide)) rfl zs_XScene_94 rfl zq_XNode_placeLocal rfl rfl ⟨(Nat.le_of_ble_eq_true rfl), (Nat.le_of_ble_eq_true rfl)⟩ (Nat.le_of_ble_eq_true rfl) ⟨(Nat.le_of_ble_eq_true rfl), (Nat.le_of_ble_eq_true rfl)⟩ ?_
                refine zr_aload_n F zd_XScene_placeNodes_90 rfl ?_
                obtain ⟨le130, hs129, h⟩ := zoS_s h
                obtain ⟨a131, ea131, h⟩ := zoB_s h
                refine zr_get F 8 4 zd_XScene_placeNodes_91 (zW_o hs129 (by decide)) rfl (by decide) zw_295 rfl (by rfl) ?_
                refine zr_tor ea131 ?_
                refine zr_aload_n F zd_XScene_placeNodes_94 rfl ?_
                obtain ⟨le133, hs132, h⟩ := zoS_s h
                refine zr_get F 3 0 zd_XScene_placeNodes_95 (zW_o hs132 (by decide)) rfl (by decide) zw_214 rfl (by rfl) ?_
                obtain ⟨i134, ei134, h⟩ := zoL_s h
                rw [← ei134]
                obtain ⟨t138, le136, hs135, h⟩ := zoR_s h
                obtain ⟨hi137, h⟩ := zoI_s h
                obtain ⟨a139, ea139, h⟩ := zoB_s h
                refine zr_aaldW F zd_XScene_placeNodes_98 hs135 hi137 ea139 ?_
                refine zr_pcn 99 rfl ?_
                obtain ⟨le141, hs140, h⟩ := zoS_s h
                obtain ⟨a142, ea142, h⟩ := zoB_s h
                refine zr_get F 3 5 zd_XScene_placeNodes_99 (zW_o hs140 (by decide)) rfl (by decide) zw_231 rfl (by rfl) ?_
                refine zr_tor ea142 ?_
                refine zr_aload_n F zd_XScene_placeNodes_102 rfl ?_
                obtain ⟨le144, hs143, h⟩ := zoS_s h
                obtain ⟨a145, ea145, h⟩ := zoB_s h
                refine zr_get F 8 10 zd_XScene_placeNodes_103 (zW_o hs143 (by decide)) rfl (by decide) zw_313 rfl (by rfl) ?_
                refine zr_tor ea145 ?_
                refine zr_aload_n F zd_XScene_placeNodes_106 rfl ?_
                obtain ⟨le147, hs146, h⟩ := zoS_s h
                obtain ⟨a148, ea148, h⟩ := zoB_s h
                refine zr_get F 3 5 zd_XScene_placeNodes_107 (zW_o hs146 (by decide)) rfl (by decide) zw_231 rfl (by rfl) ?_
                refine zr_tor ea148 ?_
                obtain ⟨p149, ep149, h⟩ := zoB_s h
                refine zr_callS0 F (k_XFixed_multiply l D tA b sh _ ep149) zd_XScene_placeNodes_110 zs_XScene_98 zq_XFixed_multiply rfl rfl ⟨(Nat.le_of_ble_eq_true rfl), (Nat.le_of_ble_eq_true rfl)⟩ (Nat.le_of_ble_eq_true rfl) ⟨(Nat.le_of_ble_eq_true rfl), (Nat.le_of_ble_eq_true rfl)⟩ ?_
                refine zr_iinc (v := (v1 + 1)) F zd_XScene_placeNodes_113 rfl rfl (by decide) ?_
                refine zr_goto F 2 zd_XScene_placeNodes_116 (by decide) ?_
                refine zr_loc (L' := [(0, .ref (b + v0)), (1, .int (v1 + 1))]) ⟨rfl, rfl, trivial⟩ ?_
                exact ih _ _ _ _ h hx0
              ·
                rw [if_neg hb122] at h
                refine zr_pcn 71 rfl ?_
                refine zr_aload_n F zd_XScene_placeNodes_71 rfl ?_
                refine zr_aload_n F zd_XScene_placeNodes_72 rfl ?_
                obtain ⟨le151, hs150, h⟩ := zoS_s h
                obtain ⟨a152, ea152, h⟩ := zoB_s h
                refine zr_get F 3 5 zd_XScene_placeNodes_73 (zW_o hs150 (by decide)) rfl (by decide) zw_231 rfl (by rfl) ?_
                refine zr_tor ea152 ?_
                obtain ⟨le154, hs153, h⟩ := zoS_s h
                obtain ⟨p155, ep155, h⟩ := zoB_s h
                refine zr_callV0 F (k_XNode_placeLocal l D tA b sh _ ep155) zd_XScene_placeNodes_76 (zW_o hs153 (by decide)) rfl zs_XScene_94 rfl zq_XNode_placeLocal rfl rfl ⟨(Nat.le_of_ble_eq_true rfl), (Nat.le_of_ble_eq_true rfl)⟩ (Nat.le_of_ble_eq_true rfl) ⟨(Nat.le_of_ble_eq_true rfl), (Nat.le_of_ble_eq_true rfl)⟩ ?_
                refine zr_goto F 113 zd_XScene_placeNodes_79 (by decide) ?_
                refine zr_iinc (v := (v1 + 1)) F zd_XScene_placeNodes_113 rfl rfl (by decide) ?_
                refine zr_goto F 2 zd_XScene_placeNodes_116 (by decide) ?_
                refine zr_loc (L' := [(0, .ref (b + v0)), (1, .int (v1 + 1))]) ⟨rfl, rfl, trivial⟩ ?_
                exact ih _ _ _ _ h hx0
            ·
              rw [if_neg hb116] at h
              refine zr_iconstv (v := 1) F zd_XScene_placeNodes_56 (by decide) ?_
              refine zr_pcn 57 rfl ?_
              refine zr_goto F 61 zd_XScene_placeNodes_57 (by decide) ?_
              obtain ⟨le157, hs156, h⟩ := zoS_s h
              refine zr_put F 3 3 zd_XScene_placeNodes_61 (zW_o hs156 (by decide)) rfl (by decide) zw_224 rfl rfl rfl rfl (by exact (Nat.le_of_ble_eq_true rfl)) ?_
              obtain ⟨mm158, emm158, h⟩ := zoL_s h
              refine zr_norm (zW tA b sh mm158) _ (by rw [emm158]; exact zW_pI (v := 1) hs156 (by decide) (zf_I_3_3 b _ _ _)) rfl ?_
              refine zr_aload_n F zd_XScene_placeNodes_64 rfl ?_
              obtain ⟨le160, hs159, h⟩ := zoS_s h
              refine zr_get F 3 0 zd_XScene_placeNodes_65 (zW_o hs159 (by decide)) rfl (by decide) zw_214 rfl (by rfl) ?_
              refine zr_if_ge F 82 zd_XScene_placeNodes_68 (by decide) (fun hb161 => ?_) (fun hb161 => ?_)
              ·
                rw [if_pos hb161] at h
                refine zr_aload_n F zd_XScene_placeNodes_82 rfl ?_
                refine zr_aload_n F zd_XScene_placeNodes_83 rfl ?_
                obtain ⟨le163, hs162, h⟩ := zoS_s h
                obtain ⟨a164, ea164, h⟩ := zoB_s h
                refine zr_get F 8 10 zd_XScene_placeNodes_84 (zW_o hs162 (by decide)) rfl (by decide) zw_313 rfl (by rfl) ?_
                refine zr_tor ea164 ?_
                refine zr_pcn 87 rfl ?_
                obtain ⟨le166, hs165, h⟩ := zoS_s h
                obtain ⟨p167, ep167, h⟩ := zoB_s h
                refine zr_callV0 F (k_XNode_placeLocal l D tA b sh _ ep167) zd_XScene_placeNodes_87 (zW_o hs165 (by decide)) rfl zs_XScene_94 rfl zq_XNode_placeLocal rfl rfl ⟨(Nat.le_of_ble_eq_true rfl), (Nat.le_of_ble_eq_true rfl)⟩ (Nat.le_of_ble_eq_true rfl) ⟨(Nat.le_of_ble_eq_true rfl), (Nat.le_of_ble_eq_true rfl)⟩ ?_
                refine zr_aload_n F zd_XScene_placeNodes_90 rfl ?_
                obtain ⟨le169, hs168, h⟩ := zoS_s h
                obtain ⟨a170, ea170, h⟩ := zoB_s h
                refine zr_get F 8 4 zd_XScene_placeNodes_91 (zW_o hs168 (by decide)) rfl (by decide) zw_295 rfl (by rfl) ?_
                refine zr_tor ea170 ?_
                refine zr_aload_n F zd_XScene_placeNodes_94 rfl ?_
                obtain ⟨le172, hs171, h⟩ := zoS_s h
                refine zr_get F 3 0 zd_XScene_placeNodes_95 (zW_o hs171 (by decide)) rfl (by decide) zw_214 rfl (by rfl) ?_
                obtain ⟨i173, ei173, h⟩ := zoL_s h
                rw [← ei173]
                obtain ⟨t177, le175, hs174, h⟩ := zoR_s h
                obtain ⟨hi176, h⟩ := zoI_s h
                obtain ⟨a178, ea178, h⟩ := zoB_s h
                refine zr_aaldW F zd_XScene_placeNodes_98 hs174 hi176 ea178 ?_
                obtain ⟨le180, hs179, h⟩ := zoS_s h
                obtain ⟨a181, ea181, h⟩ := zoB_s h
                refine zr_get F 3 5 zd_XScene_placeNodes_99 (zW_o hs179 (by decide)) rfl (by decide) zw_231 rfl (by rfl) ?_
                refine zr_tor ea181 ?_
                refine zr_aload_n F zd_XScene_placeNodes_102 rfl ?_
                refine zr_pcn 103 rfl ?_
                obtain ⟨le183, hs182, h⟩ := zoS_s h
                obtain ⟨a184, ea184, h⟩ := zoB_s h
                refine zr_get F 8 10 zd_XScene_placeNodes_103 (zW_o hs182 (by decide)) rfl (by decide) zw_313 rfl (by rfl) ?_
                refine zr_tor ea184 ?_
                refine zr_aload_n F zd_XScene_placeNodes_106 rfl ?_
                obtain ⟨le186, hs185, h⟩ := zoS_s h
                obtain ⟨a187, ea187, h⟩ := zoB_s h
                refine zr_get F 3 5 zd_XScene_placeNodes_107 (zW_o hs185 (by decide)) rfl (by decide) zw_231 rfl (by rfl) ?_
                refine zr_tor ea187 ?_
                obtain ⟨p188, ep188, h⟩ := zoB_s h
                refine zr_callS0 F (k_XFixed_multiply l D tA b sh _ ep188) zd_XScene_placeNodes_110 zs_XScene_98 zq_XFixed_multiply rfl rfl ⟨(Nat.le_of_ble_eq_true rfl), (Nat.le_of_ble_eq_true rfl)⟩ (Nat.le_of_ble_eq_true rfl) ⟨(Nat.le_of_ble_eq_true rfl), (Nat.le_of_ble_eq_true rfl)⟩ ?_
                refine zr_iinc (v := (v1 + 1)) F zd_XScene_placeNodes_113 rfl rfl (by decide) ?_
                refine zr_goto F 2 zd_XScene_placeNodes_116 (by decide) ?_
                refine zr_loc (L' := [(0, .ref (b + v0)), (1, .int (v1 + 1))]) ⟨rfl, rfl, trivial⟩ ?_
                exact ih _ _ _ _ h hx0
              ·
                rw [if_neg hb161] at h
                refine zr_aload_n F zd_XScene_placeNodes_71 rfl ?_
                refine zr_aload_n F zd_XScene_placeNodes_72 rfl ?_
                refine zr_pcn 73 rfl ?_
                obtain ⟨le190, hs189, h⟩ := zoS_s h
                obtain ⟨a191, ea191, h⟩ := zoB_s h
                refine zr_get F 3 5 zd_XScene_placeNodes_73 (zW_o hs189 (by decide)) rfl (by decide) zw_231 rfl (by rfl) ?_
                refine zr_tor ea191 ?_
                obtain ⟨le193, hs192, h⟩ := zoS_s h
                obtain ⟨p194, ep194, h⟩ := zoB_s h
                refine zr_callV0 F (k_XNode_placeLocal l D tA b sh _ ep194) zd_XScene_placeNodes_76 (zW_o hs192 (by decide)) rfl zs_XScene_94 rfl zq_XNode_placeLocal rfl rfl ⟨(Nat.le_of_ble_eq_true rfl), (Nat.le_of_ble_eq_true rfl)⟩ (Nat.le_of_ble_eq_true rfl) ⟨(Nat.le_of_ble_eq_true rfl), (Nat.le_of_ble_eq_true rfl)⟩ ?_
                refine zr_goto F 113 zd_XScene_placeNodes_79 (by decide) ?_
                refine zr_iinc (v := (v1 + 1)) F zd_XScene_placeNodes_113 rfl rfl (by decide) ?_
                refine zr_goto F 2 zd_XScene_placeNodes_116 (by decide) ?_
                refine zr_loc (L' := [(0, .ref (b + v0)), (1, .int (v1 + 1))]) ⟨rfl, rfl, trivial⟩ ?_
                exact ih _ _ _ _ h hx0
def F_XScene_placeNodes (sh : zSh) (mm : zMem) (o : Nat) : Option zMem := Option.bind (L_XScene_placeNodes_2 sh zfuel o 0 mm) (fun q195 => zoS (sh (q195.1)) 8 (fun le197 => zoL (mI (q195.2.2) (q195.1) 9 1) (fun mm198 => some mm198)))
set_option maxHeartbeats 4000000 in
set_option maxRecDepth 100000 in
theorem k_XScene_placeNodes (l : Launch) (D : va_G) (tA : Nat → ClassId) (b : Nat) (sh : zSh) (n : Nat) {mm : zMem} {o : Nat} {r : zMem} (h : F_XScene_placeNodes sh mm o = some r) : zM l D tA b zy_XScene_placeNodes zb_XScene_placeNodes 3 none 5 125 0 0 [.ref (b + o)] (zW tA b sh mm) n (zE none (zW tA b sh r) n) := by
  unfold F_XScene_placeNodes at h
  refine zM_of (own := "OrreryBox$Scene") (plainFor_of_name (by decide)) rfl (Nat.le_of_ble_eq_true rfl) (fun p e s m below meth c F hr hin hH => ?_)
  refine zr_iconstv (v := 0) F zd_XScene_placeNodes_0 (by decide) ?_
  refine zr_istore_n F zd_XScene_placeNodes_1 (by decide) ?_
  obtain ⟨q195, eq195, h⟩ := zoB_s h
  refine zr_loc (L' := [(0, .ref (b + o)), (1, .int 0)]) ⟨rfl, rfl, trivial⟩ ?_
  refine lp_XScene_placeNodes_2 F _ _ _ _ _ eq195 ?_
  ·
    refine zr_aload_n F zd_XScene_placeNodes_119 rfl ?_
    refine zr_iconstv (v := 1) F zd_XScene_placeNodes_120 (by decide) ?_
    obtain ⟨le197, hs196, h⟩ := zoS_s h
    refine zr_put F 8 9 zd_XScene_placeNodes_121 (zW_o hs196 (by decide)) rfl (by decide) zw_311 rfl rfl rfl rfl (by exact (Nat.le_of_ble_eq_true rfl)) ?_
    obtain ⟨mm198, emm198, h⟩ := zoL_s h
    refine zr_norm (zW tA b sh mm198) _ (by rw [emm198]; exact zW_pI (v := 1) hs196 (by decide) (zf_I_8_9 b _ _ _)) rfl ?_
    refine zr_pcn 124 rfl ?_
    obtain rfl := Option.some.inj h
    exact zr_vret F hr zd_XScene_placeNodes_124 (Nat.le_of_ble_eq_true rfl) (Nat.le_of_ble_eq_true rfl) ⟨rfl, rfl, rfl⟩
def L_XSight_placeView_40 (sh : zSh) (fuel : Nat) (v0 : Nat) (v1 : Nat) (v2 : Int32) (mm : zMem) : Option (Nat × Nat × Int32 × zMem) := match fuel with
  | 0 => none
  | fu + 1 => (if 3 ≤ v2 then some (v0, v1, v2, mm) else zoS (sh v0) 9 (fun le22 => Option.bind (mm.2.2 v0 8) (fun a23 => zoS (sh v0) 9 (fun le25 => Option.bind (mm.2.2 v0 8) (fun a26 => zoS (sh v1) 100 (fun le28 => if (0 : Int32) < 0 ∨ le28 ≤ (0 : Int32).toNatClampNeg then none else zoS (sh v1) 100 (fun le31 => if (1 : Int32) < 0 ∨ le31 ≤ (1 : Int32).toNatClampNeg then none else zoS (sh v1) 100 (fun le34 => if (2 : Int32) < 0 ∨ le34 ≤ (2 : Int32).toNatClampNeg then none else zoL (((mm.1 v1 (0 : Int32).toNatClampNeg) : Int32).toInt64) (fun x36 => zoL (((mm.1 v1 (1 : Int32).toNatClampNeg) : Int32).toInt64) (fun x37 => zoL (((mm.1 v1 (2 : Int32).toNatClampNeg) : Int32).toInt64) (fun x38 => Option.bind (F_XFixed_along sh mm a26 v2 x36 x37 x38) (fun p39 => zoL (zx_bound (-p39.1)) (fun x41 => zoL ((4 * v2) + 3) (fun i42 => zoS (sh a23) 100 (fun le44 => if (i42 : Int32) < 0 ∨ le44 ≤ (i42 : Int32).toNatClampNeg then none else zoL (mI (p39.2) a23 (i42 : Int32).toNatClampNeg x41) (fun mm46 => L_XSight_placeView_40 sh fu v0 v1 (v2 + 1) mm46))))))))))))))))
set_option maxHeartbeats 4000000 in
set_option maxRecDepth 100000 in
theorem lp_XSight_placeView_40 {p : Program} {l : Launch} {e : Env} {s : State} {m : MethodId} {args : Array Value} {below : List Frame} {meth : Method} {c : Code} {D : va_G} {tA : Nat → ClassId} {b n : Nat} {post : Option Value → zV → Nat → Prop} {sh : zSh} (F : zF p s m args meth c zb_XSight_placeView 3 "OrreryBox$Sight" D tA b) : ∀ (fuel : Nat) (v0 : Nat) (v1 : Nat) (v2 : Int32) (mm : zMem) (r : Nat × Nat × Int32 × zMem), L_XSight_placeView_40 sh fuel v0 v1 v2 mm = some r → (Z p l e { frames := 4, cells := 0, slots := 0, locals := 102 } s m args below meth c D b 3 (MQ below (zQ D b post) args s 0 0 (fun q => b ≤ q)) (zW tA b sh r.2.2.2) n 0 0 85 [(0, .ref (b + (r.1))), (1, .ref (b + (r.2.1))), (2, .int (r.2.2.1))] []) → Z p l e { frames := 4, cells := 0, slots := 0, locals := 102 } s m args below meth c D b 3 (MQ below (zQ D b post) args s 0 0 (fun q => b ≤ q)) (zW tA b sh mm) n 0 0 40 [(0, .ref (b + v0)), (1, .ref (b + v1)), (2, .int v2)] [] := by
  intro fuel
  induction fuel with
  | zero =>
    intro v0 v1 v2 mm r h
    cases h
  | succ fu ih =>
    intro v0 v1 v2 mm r h hx0
    rw [L_XSight_placeView_40] at h
    refine zr_pcn 40 rfl ?_
    refine zr_iload_n F zd_XSight_placeView_40 rfl ?_
    refine zr_iconstv (v := 3) F zd_XSight_placeView_41 (by decide) ?_
    refine zr_icmp_ge F 85 zd_XSight_placeView_42 (by decide) (fun hb20 => ?_) (fun hb20 => ?_)
    ·
      rw [if_pos hb20] at h
      obtain rfl := Option.some.inj h
      refine zr_loc (L' := [(0, .ref (b + v0)), (1, .ref (b + v1)), (2, .int v2)]) ⟨rfl, rfl, rfl, trivial⟩ ?_
      exact hx0 
    ·
      rw [if_neg hb20] at h
      refine zr_aload_n F zd_XSight_placeView_45 rfl ?_
      obtain ⟨le22, hs21, h⟩ := zoS_s h
      obtain ⟨a23, ea23, h⟩ := zoB_s h
      refine zr_get F 9 8 zd_XSight_placeView_46 (zW_o hs21 (by decide)) rfl (by decide) zw_381 rfl (by rfl) ?_
      refine zr_tor ea23 ?_
      refine zr_iconstv (v := 4) F zd_XSight_placeView_49 (by decide) ?_
      refine zr_iload_n F zd_XSight_placeView_50 rfl ?_
      refine zr_imul F zd_XSight_placeView_51 ?_
      refine zr_pcn 52 rfl ?_
      refine zr_iconstv (v := 3) F zd_XSight_placeView_52 (by decide) ?_
      refine zr_iadd F zd_XSight_placeView_53 ?_
      refine zr_aload_n F zd_XSight_placeView_54 rfl ?_
      obtain ⟨le25, hs24, h⟩ := zoS_s h
      obtain ⟨a26, ea26, h⟩ := zoB_s h
      refine zr_get F 9 8 zd_XSight_placeView_55 (zW_o hs24 (by decide)) rfl (by decide) zw_381 rfl (by rfl) ?_
      refine zr_tor ea26 ?_
      refine zr_iload_n F zd_XSight_placeView_58 rfl ?_
      refine zr_aload_n F zd_XSight_placeView_59 rfl ?_
      refine zr_iconstv (v := 0) F zd_XSight_placeView_60 (by decide) ?_
      obtain ⟨le28, hs27, h⟩ := zoS_s h
      obtain ⟨hi29, h⟩ := zoI_s h
      refine zr_iald F zd_XSight_placeView_61 (zW_a0 hs27) hi29 ?_
      refine zr_pcn 62 rfl ?_
      refine zr_i2l F zd_XSight_placeView_62 ?_
      refine zr_aload_n F zd_XSight_placeView_63 rfl ?_
      refine zr_iconstv (v := 1) F zd_XSight_placeView_64 (by decide) ?_
      obtain ⟨le31, hs30, h⟩ := zoS_s h
      obtain ⟨hi32, h⟩ := zoI_s h
      refine zr_iald F zd_XSight_placeView_65 (zW_a0 hs30) hi32 ?_
      refine zr_i2l F zd_XSight_placeView_66 ?_
      refine zr_aload_n F zd_XSight_placeView_67 rfl ?_
      refine zr_iconstv (v := 2) F zd_XSight_placeView_68 (by decide) ?_
      obtain ⟨le34, hs33, h⟩ := zoS_s h
      obtain ⟨hi35, h⟩ := zoI_s h
      refine zr_iald F zd_XSight_placeView_69 (zW_a0 hs33) hi35 ?_
      refine zr_pcn 70 rfl ?_
      refine zr_i2l F zd_XSight_placeView_70 ?_
      obtain ⟨x36, ex36, h⟩ := zoL_s h
      rw [← ex36]
      obtain ⟨x37, ex37, h⟩ := zoL_s h
      rw [← ex37]
      obtain ⟨x38, ex38, h⟩ := zoL_s h
      rw [← ex38]
      obtain ⟨p39, ep39, h⟩ := zoB_s h
      refine zr_callS1 F (k_XFixed_along l D tA b sh _ ep39) zd_XSight_placeView_71 zs_XSight_113 zq_XFixed_along rfl rfl ⟨(Nat.le_of_ble_eq_true rfl), (Nat.le_of_ble_eq_true rfl)⟩ (Nat.le_of_ble_eq_true rfl) ⟨(Nat.le_of_ble_eq_true rfl), (Nat.le_of_ble_eq_true rfl)⟩ ?_
      refine zr_lneg F zd_XSight_placeView_74 ?_
      refine zr_callS1 F (c_XFixed_bound l D tA b _ _ (-p39.1)) zd_XSight_placeView_75 zs_XSight_117 zq_XFixed_bound rfl rfl ⟨(Nat.le_of_ble_eq_true rfl), (Nat.le_of_ble_eq_true rfl)⟩ (Nat.le_of_ble_eq_true rfl) ⟨(Nat.le_of_ble_eq_true rfl), (Nat.le_of_ble_eq_true rfl)⟩ ?_
      obtain ⟨x41, ex41, h⟩ := zoL_s h
      rw [← ex41]
      obtain ⟨i42, ei42, h⟩ := zoL_s h
      rw [← ei42]
      obtain ⟨le44, hs43, h⟩ := zoS_s h
      obtain ⟨hi45, h⟩ := zoI_s h
      refine zr_iast F zd_XSight_placeView_78 (zW_a0 hs43) hi45 ?_
      obtain ⟨mm46, emm46, h⟩ := zoL_s h
      refine zr_norm (zW tA b sh mm46) _ (by rw [emm46]; exact zW_s0 hs43) rfl ?_
      refine zr_iinc (v := (v2 + 1)) F zd_XSight_placeView_79 rfl rfl (by decide) ?_
      refine zr_goto F 40 zd_XSight_placeView_82 (by decide) ?_
      refine zr_loc (L' := [(0, .ref (b + v0)), (1, .ref (b + v1)), (2, .int (v2 + 1))]) ⟨rfl, rfl, rfl, trivial⟩ ?_
      exact ih _ _ _ _ _ h hx0
def F_XSight_placeView (sh : zSh) (mm : zMem) (o : Nat) : Option zMem := zoS (sh o) 9 (fun le2 => Option.bind (mm.2.2 o 7) (fun a3 => zoS (sh a3) 8 (fun le5 => Option.bind (mm.2.2 a3 6) (fun a6 => zoS (sh o) 9 (fun le8 => Option.bind (mm.2.2 o 8) (fun a9 => Option.bind (F_XFixed_turn sh mm a6 3 a9) (fun p10 => zoS (sh o) 9 (fun le12 => Option.bind (F_XSight_swapAcross sh p10 o 1 4) (fun p13 => zoS (sh o) 9 (fun le15 => Option.bind (F_XSight_swapAcross sh p13 o 2 8) (fun p16 => zoS (sh o) 9 (fun le18 => Option.bind (F_XSight_swapAcross sh p16 o 6 9) (fun p19 => Option.bind (L_XSight_placeView_40 sh zfuel o a6 0 p19) (fun q47 => some (q47.2.2.2)))))))))))))))
set_option maxHeartbeats 4000000 in
set_option maxRecDepth 100000 in
theorem k_XSight_placeView (l : Launch) (D : va_G) (tA : Nat → ClassId) (b : Nat) (sh : zSh) (n : Nat) {mm : zMem} {o : Nat} {r : zMem} (h : F_XSight_placeView sh mm o = some r) : zM l D tA b zy_XSight_placeView zb_XSight_placeView 3 none 4 102 0 0 [.ref (b + o)] (zW tA b sh mm) n (zE none (zW tA b sh r) n) := by
  unfold F_XSight_placeView at h
  refine zM_of (own := "OrreryBox$Sight") (plainFor_of_name (by decide)) rfl (Nat.le_of_ble_eq_true rfl) (fun p e s m below meth c F hr hin hH => ?_)
  refine zr_aload_n F zd_XSight_placeView_0 rfl ?_
  obtain ⟨le2, hs1, h⟩ := zoS_s h
  obtain ⟨a3, ea3, h⟩ := zoB_s h
  refine zr_get F 9 7 zd_XSight_placeView_1 (zW_o hs1 (by decide)) rfl (by decide) zw_380 rfl (by rfl) ?_
  refine zr_tor ea3 ?_
  obtain ⟨le5, hs4, h⟩ := zoS_s h
  obtain ⟨a6, ea6, h⟩ := zoB_s h
  refine zr_get F 8 6 zd_XSight_placeView_4 (zW_o hs4 (by decide)) rfl (by decide) zw_302 rfl (by rfl) ?_
  refine zr_tor ea6 ?_
  refine zr_astore_n F zd_XSight_placeView_7 (by decide) ?_
  refine zr_aload_n F zd_XSight_placeView_8 rfl ?_
  refine zr_iconstv (v := 3) F zd_XSight_placeView_9 (by decide) ?_
  refine zr_aload_n F zd_XSight_placeView_10 rfl ?_
  refine zr_pcn 11 rfl ?_
  obtain ⟨le8, hs7, h⟩ := zoS_s h
  obtain ⟨a9, ea9, h⟩ := zoB_s h
  refine zr_get F 9 8 zd_XSight_placeView_11 (zW_o hs7 (by decide)) rfl (by decide) zw_381 rfl (by rfl) ?_
  refine zr_tor ea9 ?_
  obtain ⟨p10, ep10, h⟩ := zoB_s h
  refine zr_callS0 F (k_XFixed_turn l D tA b sh _ ep10) zd_XSight_placeView_14 zs_XSight_105 zq_XFixed_turn rfl rfl ⟨(Nat.le_of_ble_eq_true rfl), (Nat.le_of_ble_eq_true rfl)⟩ (Nat.le_of_ble_eq_true rfl) ⟨(Nat.le_of_ble_eq_true rfl), (Nat.le_of_ble_eq_true rfl)⟩ ?_
  refine zr_aload_n F zd_XSight_placeView_17 rfl ?_
  refine zr_iconstv (v := 1) F zd_XSight_placeView_18 (by decide) ?_
  refine zr_iconstv (v := 4) F zd_XSight_placeView_19 (by decide) ?_
  obtain ⟨le12, hs11, h⟩ := zoS_s h
  obtain ⟨p13, ep13, h⟩ := zoB_s h
  refine zr_callV0 F (k_XSight_swapAcross l D tA b sh _ ep13) zd_XSight_placeView_20 (zW_o hs11 (by decide)) rfl zs_XSight_109 rfl zq_XSight_swapAcross rfl rfl ⟨(Nat.le_of_ble_eq_true rfl), (Nat.le_of_ble_eq_true rfl)⟩ (Nat.le_of_ble_eq_true rfl) ⟨(Nat.le_of_ble_eq_true rfl), (Nat.le_of_ble_eq_true rfl)⟩ ?_
  refine zr_aload_n F zd_XSight_placeView_23 rfl ?_
  refine zr_iconstv (v := 2) F zd_XSight_placeView_24 (by decide) ?_
  refine zr_pcn 25 rfl ?_
  refine zr_bipushv (v := 8) F zd_XSight_placeView_25 (by decide) ?_
  obtain ⟨le15, hs14, h⟩ := zoS_s h
  obtain ⟨p16, ep16, h⟩ := zoB_s h
  refine zr_callV0 F (k_XSight_swapAcross l D tA b sh _ ep16) zd_XSight_placeView_27 (zW_o hs14 (by decide)) rfl zs_XSight_109 rfl zq_XSight_swapAcross rfl rfl ⟨(Nat.le_of_ble_eq_true rfl), (Nat.le_of_ble_eq_true rfl)⟩ (Nat.le_of_ble_eq_true rfl) ⟨(Nat.le_of_ble_eq_true rfl), (Nat.le_of_ble_eq_true rfl)⟩ ?_
  refine zr_aload_n F zd_XSight_placeView_30 rfl ?_
  refine zr_bipushv (v := 6) F zd_XSight_placeView_31 (by decide) ?_
  refine zr_bipushv (v := 9) F zd_XSight_placeView_33 (by decide) ?_
  obtain ⟨le18, hs17, h⟩ := zoS_s h
  obtain ⟨p19, ep19, h⟩ := zoB_s h
  refine zr_callV0 F (k_XSight_swapAcross l D tA b sh _ ep19) zd_XSight_placeView_35 (zW_o hs17 (by decide)) rfl zs_XSight_109 rfl zq_XSight_swapAcross rfl rfl ⟨(Nat.le_of_ble_eq_true rfl), (Nat.le_of_ble_eq_true rfl)⟩ (Nat.le_of_ble_eq_true rfl) ⟨(Nat.le_of_ble_eq_true rfl), (Nat.le_of_ble_eq_true rfl)⟩ ?_
  refine zr_iconstv (v := 0) F zd_XSight_placeView_38 (by decide) ?_
  refine zr_istore_n F zd_XSight_placeView_39 (by decide) ?_
  obtain ⟨q47, eq47, h⟩ := zoB_s h
  refine zr_loc (L' := [(0, .ref (b + o)), (1, .ref (b + a6)), (2, .int 0)]) ⟨rfl, rfl, rfl, trivial⟩ ?_
  refine lp_XSight_placeView_40 F _ _ _ _ _ _ eq47 ?_
  ·
    obtain rfl := Option.some.inj h
    exact zr_vret F hr zd_XSight_placeView_85 (Nat.le_of_ble_eq_true rfl) (Nat.le_of_ble_eq_true rfl) ⟨rfl, rfl, rfl⟩
abbrev zb_XSight_queue : ByteArray := prog_10_method_5_code
def zy_XSight_queue : MethodName := ⟨"OrreryBox$Sight", "queue", "(I)V"⟩
theorem zc_XSight_queue : Cond.code zy_XSight_queue zb_XSight_queue 3 none ∈ gw := gw_t 683 (by decide +kernel) rfl
theorem zq_XSight_queue : zy_XSight_queue.cls ≠ "java/lang/invoke/MethodHandle" ∧ zy_XSight_queue.cls ≠ "java/lang/invoke/VarHandle" ∧ (parseMethodDescriptor zy_XSight_queue.desc).map (fun d => d.parameters.length) = some 1 := by decide +kernel
theorem zd_XSight_queue_0 : decode zb_XSight_queue 0 = .ok (.aload_n 0, 1) := by decide +kernel
theorem zd_XSight_queue_1 : decode zb_XSight_queue 1 = .ok (.getfield 53, 3) := by decide +kernel
theorem zd_XSight_queue_4 : decode zb_XSight_queue 4 = .ok (.istore_n 2, 1) := by decide +kernel
theorem zd_XSight_queue_5 : decode zb_XSight_queue 5 = .ok (.iload_n 2, 1) := by decide +kernel
theorem zd_XSight_queue_6 : decode zb_XSight_queue 6 = .ok (.ifCond .le 39, 3) := by decide +kernel
theorem zd_XSight_queue_9 : decode zb_XSight_queue 9 = .ok (.aload_n 0, 1) := by decide +kernel
theorem zd_XSight_queue_10 : decode zb_XSight_queue 10 = .ok (.iload_n 1, 1) := by decide +kernel
theorem zd_XSight_queue_11 : decode zb_XSight_queue 11 = .ok (.aload_n 0, 1) := by decide +kernel
theorem zd_XSight_queue_12 : decode zb_XSight_queue 12 = .ok (.getfield 33, 3) := by decide +kernel
theorem zd_XSight_queue_15 : decode zb_XSight_queue 15 = .ok (.iload_n 2, 1) := by decide +kernel
theorem zd_XSight_queue_16 : decode zb_XSight_queue 16 = .ok (.iconst 1, 1) := by decide +kernel
theorem zd_XSight_queue_17 : decode zb_XSight_queue 17 = .ok (.isub, 1) := by decide +kernel
theorem zd_XSight_queue_18 : decode zb_XSight_queue 18 = .ok (.iaload, 1) := by decide +kernel
theorem zd_XSight_queue_19 : decode zb_XSight_queue 19 = .ok (.invokevirtual 121, 3) := by decide +kernel
theorem zd_XSight_queue_22 : decode zb_XSight_queue 22 = .ok (.ifCond .eq 23, 3) := by decide +kernel
theorem zd_XSight_queue_25 : decode zb_XSight_queue 25 = .ok (.aload_n 0, 1) := by decide +kernel
theorem zd_XSight_queue_26 : decode zb_XSight_queue 26 = .ok (.getfield 33, 3) := by decide +kernel
theorem zd_XSight_queue_29 : decode zb_XSight_queue 29 = .ok (.iload_n 2, 1) := by decide +kernel
theorem zd_XSight_queue_30 : decode zb_XSight_queue 30 = .ok (.aload_n 0, 1) := by decide +kernel
theorem zd_XSight_queue_31 : decode zb_XSight_queue 31 = .ok (.getfield 33, 3) := by decide +kernel
theorem zd_XSight_queue_34 : decode zb_XSight_queue 34 = .ok (.iload_n 2, 1) := by decide +kernel
theorem zd_XSight_queue_35 : decode zb_XSight_queue 35 = .ok (.iconst 1, 1) := by decide +kernel
theorem zd_XSight_queue_36 : decode zb_XSight_queue 36 = .ok (.isub, 1) := by decide +kernel
theorem zd_XSight_queue_37 : decode zb_XSight_queue 37 = .ok (.iaload, 1) := by decide +kernel
theorem zd_XSight_queue_38 : decode zb_XSight_queue 38 = .ok (.iastore, 1) := by decide +kernel
theorem zd_XSight_queue_39 : decode zb_XSight_queue 39 = .ok (.iinc 2 (-1), 3) := by decide +kernel
theorem zd_XSight_queue_42 : decode zb_XSight_queue 42 = .ok (.goto (-37), 3) := by decide +kernel
theorem zd_XSight_queue_45 : decode zb_XSight_queue 45 = .ok (.aload_n 0, 1) := by decide +kernel
theorem zd_XSight_queue_46 : decode zb_XSight_queue 46 = .ok (.getfield 33, 3) := by decide +kernel
theorem zd_XSight_queue_49 : decode zb_XSight_queue 49 = .ok (.iload_n 2, 1) := by decide +kernel
theorem zd_XSight_queue_50 : decode zb_XSight_queue 50 = .ok (.iload_n 1, 1) := by decide +kernel
theorem zd_XSight_queue_51 : decode zb_XSight_queue 51 = .ok (.iastore, 1) := by decide +kernel
theorem zd_XSight_queue_52 : decode zb_XSight_queue 52 = .ok (.aload_n 0, 1) := by decide +kernel
theorem zd_XSight_queue_53 : decode zb_XSight_queue 53 = .ok (.dup, 1) := by decide +kernel
theorem zd_XSight_queue_54 : decode zb_XSight_queue 54 = .ok (.getfield 53, 3) := by decide +kernel
theorem zd_XSight_queue_57 : decode zb_XSight_queue 57 = .ok (.iconst 1, 1) := by decide +kernel
theorem zd_XSight_queue_58 : decode zb_XSight_queue 58 = .ok (.iadd, 1) := by decide +kernel
theorem zd_XSight_queue_59 : decode zb_XSight_queue 59 = .ok (.putfield 53, 3) := by decide +kernel
theorem zd_XSight_queue_62 : decode zb_XSight_queue 62 = .ok (.return_, 1) := by decide +kernel
theorem zw_684 : (Jvm.Cond.methodLink "OrreryBox$Sight" (121 : Nat) ({ cls := "OrreryBox$Sight", name := "goesBefore", desc := "(II)Z" } : Jvm.MethodName)) ∈ gw := gw_t 684 (by decide +kernel) rfl
theorem zw_686 : (Jvm.Cond.instanceMethod ({ cls := "OrreryBox$Sight", name := "goesBefore", desc := "(II)Z" } : Jvm.MethodName)) ∈ gw := gw_t 686 (by decide +kernel) rfl
theorem zv_7 : (Jvm.Cond.selects "OrreryBox$Sight" (⟨"OrreryBox$Sight", "goesBefore", "(II)Z"⟩ : MethodName) ⟨"OrreryBox$Sight", "goesBefore", "(II)Z"⟩) ∈ gw := gw_s 7 (by decide +kernel) rfl
theorem zs_XSight_121 : zwV "OrreryBox$Sight" 121 "OrreryBox$Sight" zy_XSight_goesBefore zb_XSight_goesBefore 4 (some .boolean) := ⟨zw_684, zw_686, zv_7, zw_10, zc_XSight_goesBefore⟩
def L_XSight_queue_5 (sh : zSh) (fuel : Nat) (v0 : Nat) (v1 : Int32) (v2 : Int32) (mm : zMem) : Option (Nat × Int32 × Int32 × zMem) := match fuel with
  | 0 => none
  | fu + 1 => (if v2 ≤ 0 then some (v0, v1, v2, mm) else zoS (sh v0) 9 (fun le6 => Option.bind (mm.2.2 v0 10) (fun a7 => zoL (v2 - 1) (fun i8 => zoS (sh a7) 100 (fun le10 => if (i8 : Int32) < 0 ∨ le10 ≤ (i8 : Int32).toNatClampNeg then none else zoS (sh v0) 9 (fun le13 => zoL (mm.1 a7 (i8 : Int32).toNatClampNeg) (fun x14 => Option.bind (F_XSight_goesBefore sh mm v0 v1 x14) (fun p15 => (if p15.1 = 0 then some (v0, v1, v2, p15.2) else zoS (sh v0) 9 (fun le18 => Option.bind ((p15.2).2.2 v0 10) (fun a19 => zoS (sh v0) 9 (fun le21 => Option.bind ((p15.2).2.2 v0 10) (fun a22 => zoL (v2 - 1) (fun i23 => zoS (sh a22) 100 (fun le25 => if (i23 : Int32) < 0 ∨ le25 ≤ (i23 : Int32).toNatClampNeg then none else zoL ((p15.2).1 a22 (i23 : Int32).toNatClampNeg) (fun x27 => zoS (sh a19) 100 (fun le29 => if (v2 : Int32) < 0 ∨ le29 ≤ (v2 : Int32).toNatClampNeg then none else zoL (mI (p15.2) a19 (v2 : Int32).toNatClampNeg x27) (fun mm31 => L_XSight_queue_5 sh fu v0 v1 (v2 + (-1)) mm31))))))))))))))))))
set_option maxHeartbeats 4000000 in
set_option maxRecDepth 100000 in
theorem lp_XSight_queue_5 {p : Program} {l : Launch} {e : Env} {s : State} {m : MethodId} {args : Array Value} {below : List Frame} {meth : Method} {c : Code} {D : va_G} {tA : Nat → ClassId} {b n : Nat} {post : Option Value → zV → Nat → Prop} {sh : zSh} (F : zF p s m args meth c zb_XSight_queue 3 "OrreryBox$Sight" D tA b) : ∀ (fuel : Nat) (v0 : Nat) (v1 : Int32) (v2 : Int32) (mm : zMem) (r : Nat × Int32 × Int32 × zMem), L_XSight_queue_5 sh fuel v0 v1 v2 mm = some r → (Z p l e { frames := 2, cells := 0, slots := 0, locals := 44 } s m args below meth c D b 3 (MQ below (zQ D b post) args s 0 0 (fun q => b ≤ q)) (zW tA b sh r.2.2.2) n 0 0 45 [(0, .ref (b + (r.1))), (1, .int (r.2.1)), (2, .int (r.2.2.1))] []) → Z p l e { frames := 2, cells := 0, slots := 0, locals := 44 } s m args below meth c D b 3 (MQ below (zQ D b post) args s 0 0 (fun q => b ≤ q)) (zW tA b sh mm) n 0 0 5 [(0, .ref (b + v0)), (1, .int v1), (2, .int v2)] [] := by
  intro fuel
  induction fuel with
  | zero =>
    intro v0 v1 v2 mm r h
    cases h
  | succ fu ih =>
    intro v0 v1 v2 mm r h hx0
    rw [L_XSight_queue_5] at h
    refine zr_iload_n F zd_XSight_queue_5 rfl ?_
    refine zr_if_le F 45 zd_XSight_queue_6 (by decide) (fun hb4 => ?_) (fun hb4 => ?_)
    ·
      rw [if_pos hb4] at h
      obtain rfl := Option.some.inj h
      refine zr_loc (L' := [(0, .ref (b + v0)), (1, .int v1), (2, .int v2)]) ⟨rfl, rfl, rfl, trivial⟩ ?_
      exact hx0 
    ·
      rw [if_neg hb4] at h
      refine zr_aload_n F zd_XSight_queue_9 rfl ?_
      refine zr_iload_n F zd_XSight_queue_10 rfl ?_
      refine zr_pcn 11 rfl ?_
      refine zr_aload_n F zd_XSight_queue_11 rfl ?_
      obtain ⟨le6, hs5, h⟩ := zoS_s h
      obtain ⟨a7, ea7, h⟩ := zoB_s h
      refine zr_get F 9 10 zd_XSight_queue_12 (zW_o hs5 (by decide)) rfl (by decide) zw_383 rfl (by rfl) ?_
      refine zr_tor ea7 ?_
      refine zr_iload_n F zd_XSight_queue_15 rfl ?_
      refine zr_iconstv (v := 1) F zd_XSight_queue_16 (by decide) ?_
      refine zr_isub F zd_XSight_queue_17 ?_
      obtain ⟨i8, ei8, h⟩ := zoL_s h
      rw [← ei8]
      obtain ⟨le10, hs9, h⟩ := zoS_s h
      obtain ⟨hi11, h⟩ := zoI_s h
      refine zr_iald F zd_XSight_queue_18 (zW_a0 hs9) hi11 ?_
      obtain ⟨le13, hs12, h⟩ := zoS_s h
      obtain ⟨x14, ex14, h⟩ := zoL_s h
      rw [← ex14]
      obtain ⟨p15, ep15, h⟩ := zoB_s h
      refine zr_callV1 F (k_XSight_goesBefore l D tA b sh _ ep15) zd_XSight_queue_19 (zW_o hs12 (by decide)) rfl zs_XSight_121 rfl zq_XSight_goesBefore rfl rfl ⟨(Nat.le_of_ble_eq_true rfl), (Nat.le_of_ble_eq_true rfl)⟩ (Nat.le_of_ble_eq_true rfl) ⟨(Nat.le_of_ble_eq_true rfl), (Nat.le_of_ble_eq_true rfl)⟩ ?_
      refine zr_if_eq F 45 zd_XSight_queue_22 (by decide) (fun hb16 => ?_) (fun hb16 => ?_)
      ·
        rw [if_pos hb16] at h
        obtain rfl := Option.some.inj h
        refine zr_loc (L' := [(0, .ref (b + v0)), (1, .int v1), (2, .int v2)]) ⟨rfl, rfl, rfl, trivial⟩ ?_
        exact hx0 
      ·
        rw [if_neg hb16] at h
        refine zr_pcn 25 rfl ?_
        refine zr_aload_n F zd_XSight_queue_25 rfl ?_
        obtain ⟨le18, hs17, h⟩ := zoS_s h
        obtain ⟨a19, ea19, h⟩ := zoB_s h
        refine zr_get F 9 10 zd_XSight_queue_26 (zW_o hs17 (by decide)) rfl (by decide) zw_383 rfl (by rfl) ?_
        refine zr_tor ea19 ?_
        refine zr_iload_n F zd_XSight_queue_29 rfl ?_
        refine zr_aload_n F zd_XSight_queue_30 rfl ?_
        obtain ⟨le21, hs20, h⟩ := zoS_s h
        obtain ⟨a22, ea22, h⟩ := zoB_s h
        refine zr_get F 9 10 zd_XSight_queue_31 (zW_o hs20 (by decide)) rfl (by decide) zw_383 rfl (by rfl) ?_
        refine zr_tor ea22 ?_
        refine zr_iload_n F zd_XSight_queue_34 rfl ?_
        refine zr_iconstv (v := 1) F zd_XSight_queue_35 (by decide) ?_
        refine zr_isub F zd_XSight_queue_36 ?_
        refine zr_pcn 37 rfl ?_
        obtain ⟨i23, ei23, h⟩ := zoL_s h
        rw [← ei23]
        obtain ⟨le25, hs24, h⟩ := zoS_s h
        obtain ⟨hi26, h⟩ := zoI_s h
        refine zr_iald F zd_XSight_queue_37 (zW_a0 hs24) hi26 ?_
        obtain ⟨x27, ex27, h⟩ := zoL_s h
        rw [← ex27]
        obtain ⟨le29, hs28, h⟩ := zoS_s h
        obtain ⟨hi30, h⟩ := zoI_s h
        refine zr_iast F zd_XSight_queue_38 (zW_a0 hs28) hi30 ?_
        obtain ⟨mm31, emm31, h⟩ := zoL_s h
        refine zr_norm (zW tA b sh mm31) _ (by rw [emm31]; exact zW_s0 hs28) rfl ?_
        refine zr_iinc (v := (v2 + (-1))) F zd_XSight_queue_39 rfl rfl (by decide) ?_
        refine zr_goto F 5 zd_XSight_queue_42 (by decide) ?_
        refine zr_loc (L' := [(0, .ref (b + v0)), (1, .int v1), (2, .int (v2 + (-1)))]) ⟨rfl, rfl, rfl, trivial⟩ ?_
        exact ih _ _ _ _ _ h hx0
theorem zf_I_9_11 (b : Nat) (m : zMem) (k : Nat) (v : Int32) : (zfl b 9 m k).set 11 (.int v) = zfl b 9 (mI m k 11 v) k := by simp [zfl, mI, upd, vp_updL]
def F_XSight_queue (sh : zSh) (mm : zMem) (o : Nat) (x0_ : Int32) : Option zMem := zoS (sh o) 9 (fun le2 => zoL (mm.1 o 11) (fun x3 => Option.bind (L_XSight_queue_5 sh zfuel o x0_ x3 mm) (fun q32 => zoS (sh (q32.1)) 9 (fun le34 => Option.bind ((q32.2.2.2).2.2 (q32.1) 10) (fun a35 => zoS (sh a35) 100 (fun le37 => if (q32.2.2.1 : Int32) < 0 ∨ le37 ≤ (q32.2.2.1 : Int32).toNatClampNeg then none else zoL (mI (q32.2.2.2) a35 (q32.2.2.1 : Int32).toNatClampNeg (q32.2.1)) (fun mm39 => zoS (sh (q32.1)) 9 (fun le41 => zoL ((mm39.1 (q32.1) 11) + 1) (fun x42 => zoS (sh (q32.1)) 9 (fun le44 => zoL (mI mm39 (q32.1) 11 x42) (fun mm45 => some mm45)))))))))))
set_option maxHeartbeats 4000000 in
set_option maxRecDepth 100000 in
theorem k_XSight_queue (l : Launch) (D : va_G) (tA : Nat → ClassId) (b : Nat) (sh : zSh) (n : Nat) {mm : zMem} {o : Nat} {x0_ : Int32} {r : zMem} (h : F_XSight_queue sh mm o x0_ = some r) : zM l D tA b zy_XSight_queue zb_XSight_queue 3 none 2 44 0 0 [.ref (b + o), .int x0_] (zW tA b sh mm) n (zE none (zW tA b sh r) n) := by
  unfold F_XSight_queue at h
  refine zM_of (own := "OrreryBox$Sight") (plainFor_of_name (by decide)) rfl (Nat.le_of_ble_eq_true rfl) (fun p e s m below meth c F hr hin hH => ?_)
  refine zr_aload_n F zd_XSight_queue_0 rfl ?_
  obtain ⟨le2, hs1, h⟩ := zoS_s h
  refine zr_get F 9 11 zd_XSight_queue_1 (zW_o hs1 (by decide)) rfl (by decide) zw_384 rfl (by rfl) ?_
  obtain ⟨x3, ex3, h⟩ := zoL_s h
  rw [← ex3]
  refine zr_istore_n F zd_XSight_queue_4 (by decide) ?_
  obtain ⟨q32, eq32, h⟩ := zoB_s h
  refine zr_loc (L' := [(0, .ref (b + o)), (1, .int x0_), (2, .int x3)]) ⟨rfl, rfl, rfl, trivial⟩ ?_
  refine lp_XSight_queue_5 F _ _ _ _ _ _ eq32 ?_
  ·
    refine zr_aload_n F zd_XSight_queue_45 rfl ?_
    obtain ⟨le34, hs33, h⟩ := zoS_s h
    obtain ⟨a35, ea35, h⟩ := zoB_s h
    refine zr_get F 9 10 zd_XSight_queue_46 (zW_o hs33 (by decide)) rfl (by decide) zw_383 rfl (by rfl) ?_
    refine zr_tor ea35 ?_
    refine zr_iload_n F zd_XSight_queue_49 rfl ?_
    refine zr_iload_n F zd_XSight_queue_50 rfl ?_
    refine zr_pcn 51 rfl ?_
    obtain ⟨le37, hs36, h⟩ := zoS_s h
    obtain ⟨hi38, h⟩ := zoI_s h
    refine zr_iast F zd_XSight_queue_51 (zW_a0 hs36) hi38 ?_
    obtain ⟨mm39, emm39, h⟩ := zoL_s h
    refine zr_norm (zW tA b sh mm39) _ (by rw [emm39]; exact zW_s0 hs36) rfl ?_
    refine zr_aload_n F zd_XSight_queue_52 rfl ?_
    refine zr_dup F zd_XSight_queue_53 rfl ?_
    obtain ⟨le41, hs40, h⟩ := zoS_s h
    refine zr_get F 9 11 zd_XSight_queue_54 (zW_o hs40 (by decide)) rfl (by decide) zw_384 rfl (by rfl) ?_
    refine zr_iconstv (v := 1) F zd_XSight_queue_57 (by decide) ?_
    refine zr_iadd F zd_XSight_queue_58 ?_
    obtain ⟨x42, ex42, h⟩ := zoL_s h
    rw [← ex42]
    obtain ⟨le44, hs43, h⟩ := zoS_s h
    refine zr_put F 9 11 zd_XSight_queue_59 (zW_o hs43 (by decide)) rfl (by decide) zw_384 rfl rfl rfl rfl (by exact (Nat.le_of_ble_eq_true rfl)) ?_
    obtain ⟨mm45, emm45, h⟩ := zoL_s h
    refine zr_norm (zW tA b sh mm45) _ (by rw [emm45]; exact zW_pI (v := x42) hs43 (by decide) (zf_I_9_11 b _ _ _)) rfl ?_
    obtain rfl := Option.some.inj h
    exact zr_vret F hr zd_XSight_queue_62 (Nat.le_of_ble_eq_true rfl) (Nat.le_of_ble_eq_true rfl) ⟨rfl, rfl, rfl⟩
