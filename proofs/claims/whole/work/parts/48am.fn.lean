def F_OB_time (sh : zSh) (mm : zMem) (o : Nat) (x0_ : Int32) : Option (Int32 × zMem) := (if (sp_OB_within x0_ 0 1000000) = 0 then some (0, mm) else zoS (sh o) 0 (fun le4 => Option.bind (mm.2.2 o 5) (fun a5 => zoS (sh a5) 8 (fun le7 => Option.bind (F_XScene_moveTo sh mm a5 x0_) (fun p8 => some (1, p8))))))
set_option maxHeartbeats 4000000 in
set_option maxRecDepth 100000 in
theorem k_OB_time (l : Launch) (D : va_G) (tA : Nat → ClassId) (b : Nat) (sh : zSh) (n : Nat) {mm : zMem} {o : Nat} {x0_ : Int32} {r : (Int32 × zMem)} (h : F_OB_time sh mm o x0_ = some r) : zM l D tA b zy_OB_time zb_OB_time 2 (some .boolean) 5 128 0 0 [.ref (b + o), .int x0_] (zW tA b sh mm) n (zE (some (.int (r.1))) (zW tA b sh r.2) n) := by
  unfold F_OB_time at h
  refine zM_of (own := "OrreryBox") (plainFor_of_name (by decide)) rfl (Nat.le_of_ble_eq_true rfl) (fun p e s m below meth c F hr hin hH => ?_)
  refine zr_iload_n F zd_OB_time_0 rfl ?_
  refine zr_iconstv (v := 0) F zd_OB_time_1 (by decide) ?_
  refine zr_ldc F zd_OB_time_2 zw_552 ?_
  refine zr_callS1 F (c_OB_within l D tA b _ _ x0_ 0 1000000) zd_OB_time_4 zs_OB_97 zq_OB_within rfl rfl ⟨(Nat.le_of_ble_eq_true rfl), (Nat.le_of_ble_eq_true rfl)⟩ (Nat.le_of_ble_eq_true rfl) ⟨(Nat.le_of_ble_eq_true rfl), (Nat.le_of_ble_eq_true rfl)⟩ ?_
  refine zr_if_ne F 12 zd_OB_time_7 (by decide) (fun hb2 => ?_) (fun hb2 => ?_)
  ·
    replace h := (if_neg hb2).symm.trans h
    refine zr_aload_n F zd_OB_time_12 rfl ?_
    obtain ⟨le4, hs3, h⟩ := zoS_s h
    obtain ⟨a5, ea5, h⟩ := zoB_s h
    refine zr_get F 0 5 zd_OB_time_13 (zW_o hs3 (by decide)) rfl (by decide) zw_493 rfl (by rfl) ?_
    refine zr_tor ea5 ?_
    refine zr_pcn 16 rfl ?_
    refine zr_iload_n F zd_OB_time_16 rfl ?_
    obtain ⟨le7, hs6, h⟩ := zoS_s h
    obtain ⟨p8, ep8, h⟩ := zoB_s h
    refine zr_callV0 F (k_XScene_moveTo l D tA b sh _ ep8) zd_OB_time_17 (zW_o hs6 (by decide)) rfl zs_OB_102 rfl zq_XScene_moveTo rfl rfl ⟨(Nat.le_of_ble_eq_true rfl), (Nat.le_of_ble_eq_true rfl)⟩ (Nat.le_of_ble_eq_true rfl) ⟨(Nat.le_of_ble_eq_true rfl), (Nat.le_of_ble_eq_true rfl)⟩ ?_
    refine zr_iconstv (v := 1) F zd_OB_time_20 (by decide) ?_
    obtain rfl := Option.some.inj h
    exact zr_zret F hr rfl zd_OB_time_21 (Nat.le_of_ble_eq_true rfl) (Nat.le_of_ble_eq_true rfl) ⟨rfl, rfl, rfl⟩
  ·
    replace h := (if_pos hb2).symm.trans h
    refine zr_iconstv (v := 0) F zd_OB_time_10 (by decide) ?_
    obtain rfl := Option.some.inj h
    exact zr_zret F hr rfl zd_OB_time_11 (Nat.le_of_ble_eq_true rfl) (Nat.le_of_ble_eq_true rfl) ⟨rfl, rfl, rfl⟩
abbrev zb_XPacker_packRows : ByteArray := prog_5_method_15_code
def zy_XPacker_packRows : MethodName := ⟨"OrreryBox$Packer", "packRows", "()V"⟩
theorem zc_XPacker_packRows : Cond.code zy_XPacker_packRows zb_XPacker_packRows 3 none ∈ gw := gw_t 1011 (by decide +kernel) rfl
theorem zq_XPacker_packRows : zy_XPacker_packRows.cls ≠ "java/lang/invoke/MethodHandle" ∧ zy_XPacker_packRows.cls ≠ "java/lang/invoke/VarHandle" ∧ (parseMethodDescriptor zy_XPacker_packRows.desc).map (fun d => d.parameters.length) = some 0 := by decide +kernel
theorem zd_XPacker_packRows_0 : decode zb_XPacker_packRows 0 = .ok (.aload_n 0, 1) := by decide +kernel
theorem zd_XPacker_packRows_1 : decode zb_XPacker_packRows 1 = .ok (.iconst 0, 1) := by decide +kernel
theorem zd_XPacker_packRows_2 : decode zb_XPacker_packRows 2 = .ok (.putfield 112, 3) := by decide +kernel
theorem zd_XPacker_packRows_5 : decode zb_XPacker_packRows 5 = .ok (.aload_n 0, 1) := by decide +kernel
theorem zd_XPacker_packRows_6 : decode zb_XPacker_packRows 6 = .ok (.iconst 0, 1) := by decide +kernel
theorem zd_XPacker_packRows_7 : decode zb_XPacker_packRows 7 = .ok (.putfield 115, 3) := by decide +kernel
theorem zd_XPacker_packRows_10 : decode zb_XPacker_packRows 10 = .ok (.iconst 0, 1) := by decide +kernel
theorem zd_XPacker_packRows_11 : decode zb_XPacker_packRows 11 = .ok (.istore_n 1, 1) := by decide +kernel
theorem zd_XPacker_packRows_12 : decode zb_XPacker_packRows 12 = .ok (.iload_n 1, 1) := by decide +kernel
theorem zd_XPacker_packRows_13 : decode zb_XPacker_packRows 13 = .ok (.sipush 4096, 3) := by decide +kernel
theorem zd_XPacker_packRows_16 : decode zb_XPacker_packRows 16 = .ok (.if_icmp .ge 16, 3) := by decide +kernel
theorem zd_XPacker_packRows_19 : decode zb_XPacker_packRows 19 = .ok (.aload_n 0, 1) := by decide +kernel
theorem zd_XPacker_packRows_20 : decode zb_XPacker_packRows 20 = .ok (.getfield 22, 3) := by decide +kernel
theorem zd_XPacker_packRows_23 : decode zb_XPacker_packRows 23 = .ok (.iload_n 1, 1) := by decide +kernel
theorem zd_XPacker_packRows_24 : decode zb_XPacker_packRows 24 = .ok (.iconst (-1), 1) := by decide +kernel
theorem zd_XPacker_packRows_25 : decode zb_XPacker_packRows 25 = .ok (.iastore, 1) := by decide +kernel
theorem zd_XPacker_packRows_26 : decode zb_XPacker_packRows 26 = .ok (.iinc 1 1, 3) := by decide +kernel
theorem zd_XPacker_packRows_29 : decode zb_XPacker_packRows 29 = .ok (.goto (-17), 3) := by decide +kernel
theorem zd_XPacker_packRows_32 : decode zb_XPacker_packRows 32 = .ok (.aload_n 0, 1) := by decide +kernel
theorem zd_XPacker_packRows_33 : decode zb_XPacker_packRows 33 = .ok (.iconst 3, 1) := by decide +kernel
theorem zd_XPacker_packRows_34 : decode zb_XPacker_packRows 34 = .ok (.iconst 3, 1) := by decide +kernel
theorem zd_XPacker_packRows_35 : decode zb_XPacker_packRows 35 = .ok (.invokevirtual 118, 3) := by decide +kernel
theorem zd_XPacker_packRows_38 : decode zb_XPacker_packRows 38 = .ok (.iconst 0, 1) := by decide +kernel
theorem zd_XPacker_packRows_39 : decode zb_XPacker_packRows 39 = .ok (.istore_n 1, 1) := by decide +kernel
theorem zd_XPacker_packRows_40 : decode zb_XPacker_packRows 40 = .ok (.iload_n 1, 1) := by decide +kernel
theorem zd_XPacker_packRows_41 : decode zb_XPacker_packRows 41 = .ok (.aload_n 0, 1) := by decide +kernel
theorem zd_XPacker_packRows_42 : decode zb_XPacker_packRows 42 = .ok (.getfield 70, 3) := by decide +kernel
theorem zd_XPacker_packRows_45 : decode zb_XPacker_packRows 45 = .ok (.if_icmp .ge 75, 3) := by decide +kernel
theorem zd_XPacker_packRows_48 : decode zb_XPacker_packRows 48 = .ok (.aload_n 0, 1) := by decide +kernel
theorem zd_XPacker_packRows_49 : decode zb_XPacker_packRows 49 = .ok (.iload_n 1, 1) := by decide +kernel
theorem zd_XPacker_packRows_50 : decode zb_XPacker_packRows 50 = .ok (.invokevirtual 121, 3) := by decide +kernel
theorem zd_XPacker_packRows_53 : decode zb_XPacker_packRows 53 = .ok (.iload_n 1, 1) := by decide +kernel
theorem zd_XPacker_packRows_54 : decode zb_XPacker_packRows 54 = .ok (.iconst 1, 1) := by decide +kernel
theorem zd_XPacker_packRows_55 : decode zb_XPacker_packRows 55 = .ok (.iadd, 1) := by decide +kernel
theorem zd_XPacker_packRows_56 : decode zb_XPacker_packRows 56 = .ok (.istore_n 2, 1) := by decide +kernel
theorem zd_XPacker_packRows_57 : decode zb_XPacker_packRows 57 = .ok (.aload_n 0, 1) := by decide +kernel
theorem zd_XPacker_packRows_58 : decode zb_XPacker_packRows 58 = .ok (.getfield 124, 3) := by decide +kernel
theorem zd_XPacker_packRows_61 : decode zb_XPacker_packRows 61 = .ok (.iconst 3, 1) := by decide +kernel
theorem zd_XPacker_packRows_62 : decode zb_XPacker_packRows 62 = .ok (.if_icmp .lt 29, 3) := by decide +kernel
theorem zd_XPacker_packRows_65 : decode zb_XPacker_packRows 65 = .ok (.aload_n 0, 1) := by decide +kernel
theorem zd_XPacker_packRows_66 : decode zb_XPacker_packRows 66 = .ok (.aload_n 0, 1) := by decide +kernel
theorem zd_XPacker_packRows_67 : decode zb_XPacker_packRows 67 = .ok (.getfield 124, 3) := by decide +kernel
theorem zd_XPacker_packRows_70 : decode zb_XPacker_packRows 70 = .ok (.invokevirtual 127, 3) := by decide +kernel
theorem zd_XPacker_packRows_73 : decode zb_XPacker_packRows 73 = .ok (.aload_n 0, 1) := by decide +kernel
theorem zd_XPacker_packRows_74 : decode zb_XPacker_packRows 74 = .ok (.aload_n 0, 1) := by decide +kernel
theorem zd_XPacker_packRows_75 : decode zb_XPacker_packRows 75 = .ok (.getfield 130, 3) := by decide +kernel
theorem zd_XPacker_packRows_78 : decode zb_XPacker_packRows 78 = .ok (.invokevirtual 133, 3) := by decide +kernel
theorem zd_XPacker_packRows_81 : decode zb_XPacker_packRows 81 = .ok (.iload_n 1, 1) := by decide +kernel
theorem zd_XPacker_packRows_82 : decode zb_XPacker_packRows 82 = .ok (.aload_n 0, 1) := by decide +kernel
theorem zd_XPacker_packRows_83 : decode zb_XPacker_packRows 83 = .ok (.getfield 124, 3) := by decide +kernel
theorem zd_XPacker_packRows_86 : decode zb_XPacker_packRows 86 = .ok (.iadd, 1) := by decide +kernel
theorem zd_XPacker_packRows_87 : decode zb_XPacker_packRows 87 = .ok (.istore_n 2, 1) := by decide +kernel
theorem zd_XPacker_packRows_88 : decode zb_XPacker_packRows 88 = .ok (.goto 13, 3) := by decide +kernel
theorem zd_XPacker_packRows_91 : decode zb_XPacker_packRows 91 = .ok (.aload_n 0, 1) := by decide +kernel
theorem zd_XPacker_packRows_92 : decode zb_XPacker_packRows 92 = .ok (.aload_n 0, 1) := by decide +kernel
theorem zd_XPacker_packRows_93 : decode zb_XPacker_packRows 93 = .ok (.getfield 19, 3) := by decide +kernel
theorem zd_XPacker_packRows_96 : decode zb_XPacker_packRows 96 = .ok (.iload_n 1, 1) := by decide +kernel
theorem zd_XPacker_packRows_97 : decode zb_XPacker_packRows 97 = .ok (.iaload, 1) := by decide +kernel
theorem zd_XPacker_packRows_98 : decode zb_XPacker_packRows 98 = .ok (.invokevirtual 136, 3) := by decide +kernel
theorem zd_XPacker_packRows_101 : decode zb_XPacker_packRows 101 = .ok (.iload_n 1, 1) := by decide +kernel
theorem zd_XPacker_packRows_102 : decode zb_XPacker_packRows 102 = .ok (.iload_n 2, 1) := by decide +kernel
theorem zd_XPacker_packRows_103 : decode zb_XPacker_packRows 103 = .ok (.if_icmp .ge 14, 3) := by decide +kernel
theorem zd_XPacker_packRows_106 : decode zb_XPacker_packRows 106 = .ok (.aload_n 0, 1) := by decide +kernel
theorem zd_XPacker_packRows_107 : decode zb_XPacker_packRows 107 = .ok (.iload_n 1, 1) := by decide +kernel
theorem zd_XPacker_packRows_108 : decode zb_XPacker_packRows 108 = .ok (.invokevirtual 139, 3) := by decide +kernel
theorem zd_XPacker_packRows_111 : decode zb_XPacker_packRows 111 = .ok (.iinc 1 1, 3) := by decide +kernel
theorem zd_XPacker_packRows_114 : decode zb_XPacker_packRows 114 = .ok (.goto (-13), 3) := by decide +kernel
theorem zd_XPacker_packRows_117 : decode zb_XPacker_packRows 117 = .ok (.goto (-77), 3) := by decide +kernel
theorem zd_XPacker_packRows_120 : decode zb_XPacker_packRows 120 = .ok (.aload_n 0, 1) := by decide +kernel
theorem zd_XPacker_packRows_121 : decode zb_XPacker_packRows 121 = .ok (.sipush 256, 3) := by decide +kernel
theorem zd_XPacker_packRows_124 : decode zb_XPacker_packRows 124 = .ok (.invokevirtual 136, 3) := by decide +kernel
theorem zd_XPacker_packRows_127 : decode zb_XPacker_packRows 127 = .ok (.aload_n 0, 1) := by decide +kernel
theorem zd_XPacker_packRows_128 : decode zb_XPacker_packRows 128 = .ok (.iconst 0, 1) := by decide +kernel
theorem zd_XPacker_packRows_129 : decode zb_XPacker_packRows 129 = .ok (.bipush 8, 2) := by decide +kernel
theorem zd_XPacker_packRows_131 : decode zb_XPacker_packRows 131 = .ok (.aload_n 0, 1) := by decide +kernel
theorem zd_XPacker_packRows_132 : decode zb_XPacker_packRows 132 = .ok (.getfield 115, 3) := by decide +kernel
theorem zd_XPacker_packRows_135 : decode zb_XPacker_packRows 135 = .ok (.isub, 1) := by decide +kernel
theorem zd_XPacker_packRows_136 : decode zb_XPacker_packRows 136 = .ok (.bipush 7, 2) := by decide +kernel
theorem zd_XPacker_packRows_138 : decode zb_XPacker_packRows 138 = .ok (.iand, 1) := by decide +kernel
theorem zd_XPacker_packRows_139 : decode zb_XPacker_packRows 139 = .ok (.invokevirtual 118, 3) := by decide +kernel
theorem zd_XPacker_packRows_142 : decode zb_XPacker_packRows 142 = .ok (.return_, 1) := by decide +kernel
def L_XPacker_packRows_12 (sh : zSh) (fuel : Nat) (v0 : Nat) (v1 : Int32) (mm : zMem) : Option (Nat × Int32 × zMem) := match fuel with
  | 0 => none
  | fu + 1 => (if 4096 ≤ v1 then some (v0, v1, mm) else zoS (sh v0) 4 (fun le9 => Option.bind (mm.2.2 v0 5) (fun a10 => zoS (sh a10) 100 (fun le12 => if (v1 : Int32) < 0 ∨ le12 ≤ (v1 : Int32).toNatClampNeg then none else zoL (mI mm a10 (v1 : Int32).toNatClampNeg (-1)) (fun mm14 => L_XPacker_packRows_12 sh fu v0 (v1 + 1) mm14)))))
set_option maxHeartbeats 4000000 in
set_option maxRecDepth 100000 in
theorem lp_XPacker_packRows_12 {p : Program} {l : Launch} {e : Env} {s : State} {m : MethodId} {args : Array Value} {below : List Frame} {meth : Method} {c : Code} {D : va_G} {tA : Nat → ClassId} {b n : Nat} {post : Option Value → zV → Nat → Prop} {sh : zSh} (F : zF p s m args meth c zb_XPacker_packRows 3 "OrreryBox$Packer" D tA b) : ∀ (fuel : Nat) (v0 : Nat) (v1 : Int32) (mm : zMem) (r : Nat × Int32 × zMem), L_XPacker_packRows_12 sh fuel v0 v1 mm = some r → (Z p l e { frames := 4, cells := 0, slots := 0, locals := 88 } s m args below meth c D b 3 (MQ below (zQ D b post) args s 0 0 (fun q => b ≤ q)) (zW tA b sh r.2.2) n 0 0 32 [(0, .ref (b + (r.1))), (1, .int (r.2.1))] []) → Z p l e { frames := 4, cells := 0, slots := 0, locals := 88 } s m args below meth c D b 3 (MQ below (zQ D b post) args s 0 0 (fun q => b ≤ q)) (zW tA b sh mm) n 0 0 12 [(0, .ref (b + v0)), (1, .int v1)] [] := by
  intro fuel
  induction fuel with
  | zero =>
    intro v0 v1 mm r h
    cases h
  | succ fu ih =>
    intro v0 v1 mm r h hx0
    rw [L_XPacker_packRows_12] at h
    refine zr_iload_n F zd_XPacker_packRows_12 rfl ?_
    refine zr_sipushv (v := 4096) F zd_XPacker_packRows_13 (by decide) ?_
    refine zr_icmp_ge F 32 zd_XPacker_packRows_16 (by decide) (fun hb7 => ?_) (fun hb7 => ?_)
    ·
      replace h := (if_pos hb7).symm.trans h
      obtain rfl := Option.some.inj h
      refine zr_loc (L' := [(0, .ref (b + v0)), (1, .int v1)]) ⟨rfl, rfl, trivial⟩ ?_
      exact hx0 
    ·
      replace h := (if_neg hb7).symm.trans h
      refine zr_aload_n F zd_XPacker_packRows_19 rfl ?_
      obtain ⟨le9, hs8, h⟩ := zoS_s h
      obtain ⟨a10, ea10, h⟩ := zoB_s h
      refine zr_get F 4 5 zd_XPacker_packRows_20 (zW_o hs8 (by decide)) rfl (by decide) zw_88 rfl (by rfl) ?_
      refine zr_tor ea10 ?_
      refine zr_iload_n F zd_XPacker_packRows_23 rfl ?_
      refine zr_iconstv (v := (-1)) F zd_XPacker_packRows_24 (by decide) ?_
      refine zr_pcn 25 rfl ?_
      obtain ⟨le12, hs11, h⟩ := zoS_s h
      obtain ⟨hi13, h⟩ := zoI_s h
      refine zr_iast F zd_XPacker_packRows_25 (zW_a0 hs11) hi13 ?_
      obtain ⟨mm14, emm14, h⟩ := zoL_s h
      refine zr_norm (zW tA b sh mm14) _ (by rw [emm14]; exact zW_s0 hs11) rfl ?_
      refine zr_iinc (v := (v1 + 1)) F zd_XPacker_packRows_26 rfl rfl (by decide) ?_
      refine zr_goto F 12 zd_XPacker_packRows_29 (by decide) ?_
      refine zr_loc (L' := [(0, .ref (b + v0)), (1, .int (v1 + 1))]) ⟨rfl, rfl, trivial⟩ ?_
      exact ih _ _ _ _ h hx0
theorem zw_1020 : (Jvm.Cond.methodLink "OrreryBox$Packer" (121 : Nat) ({ cls := "OrreryBox$Packer", name := "findRun", desc := "(I)V" } : Jvm.MethodName)) ∈ gw := gw_t 1020 (by decide +kernel) rfl
theorem zw_1022 : (Jvm.Cond.instanceMethod ({ cls := "OrreryBox$Packer", name := "findRun", desc := "(I)V" } : Jvm.MethodName)) ∈ gw := gw_t 1022 (by decide +kernel) rfl
theorem zv_37 : (Jvm.Cond.selects "OrreryBox$Packer" (⟨"OrreryBox$Packer", "findRun", "(I)V"⟩ : MethodName) ⟨"OrreryBox$Packer", "findRun", "(I)V"⟩) ∈ gw := gw_s 37 (by decide +kernel) rfl
theorem zs_XPacker_121 : zwV "OrreryBox$Packer" 121 "OrreryBox$Packer" zy_XPacker_findRun zb_XPacker_findRun 6 none := ⟨zw_1020, zw_1022, zv_37, zw_3, zc_XPacker_findRun⟩
theorem zw_1048 : (Jvm.Cond.methodLink "OrreryBox$Packer" (139 : Nat) ({ cls := "OrreryBox$Packer", name := "remember", desc := "(I)V" } : Jvm.MethodName)) ∈ gw := gw_t 1048 (by decide +kernel) rfl
theorem zw_1050 : (Jvm.Cond.instanceMethod ({ cls := "OrreryBox$Packer", name := "remember", desc := "(I)V" } : Jvm.MethodName)) ∈ gw := gw_t 1050 (by decide +kernel) rfl
theorem zv_44 : (Jvm.Cond.selects "OrreryBox$Packer" (⟨"OrreryBox$Packer", "remember", "(I)V"⟩ : MethodName) ⟨"OrreryBox$Packer", "remember", "(I)V"⟩) ∈ gw := gw_s 44 (by decide +kernel) rfl
theorem zs_XPacker_139 : zwV "OrreryBox$Packer" 139 "OrreryBox$Packer" zy_XPacker_remember zb_XPacker_remember 3 none := ⟨zw_1048, zw_1050, zv_44, zw_3, zc_XPacker_remember⟩
def L_XPacker_packRows_101 (sh : zSh) (fuel : Nat) (v0 : Nat) (v1 : Int32) (v2 : Int32) (mm : zMem) : Option (Nat × Int32 × Int32 × zMem) := match fuel with
  | 0 => none
  | fu + 1 => (if v2 ≤ v1 then some (v0, v1, v2, mm) else zoS (sh v0) 4 (fun le41 => Option.bind (F_XPacker_remember sh mm v0 v1) (fun p42 => L_XPacker_packRows_101 sh fu v0 (v1 + 1) v2 p42)))
set_option maxHeartbeats 4000000 in
set_option maxRecDepth 100000 in
theorem lp_XPacker_packRows_101 {p : Program} {l : Launch} {e : Env} {s : State} {m : MethodId} {args : Array Value} {below : List Frame} {meth : Method} {c : Code} {D : va_G} {tA : Nat → ClassId} {b n : Nat} {post : Option Value → zV → Nat → Prop} {sh : zSh} (F : zF p s m args meth c zb_XPacker_packRows 3 "OrreryBox$Packer" D tA b) : ∀ (fuel : Nat) (v0 : Nat) (v1 : Int32) (v2 : Int32) (mm : zMem) (r : Nat × Int32 × Int32 × zMem), L_XPacker_packRows_101 sh fuel v0 v1 v2 mm = some r → (Z p l e { frames := 4, cells := 0, slots := 0, locals := 88 } s m args below meth c D b 3 (MQ below (zQ D b post) args s 0 0 (fun q => b ≤ q)) (zW tA b sh r.2.2.2) n 0 0 117 [(0, .ref (b + (r.1))), (1, .int (r.2.1)), (2, .int (r.2.2.1))] []) → Z p l e { frames := 4, cells := 0, slots := 0, locals := 88 } s m args below meth c D b 3 (MQ below (zQ D b post) args s 0 0 (fun q => b ≤ q)) (zW tA b sh mm) n 0 0 101 [(0, .ref (b + v0)), (1, .int v1), (2, .int v2)] [] := by
  intro fuel
  induction fuel with
  | zero =>
    intro v0 v1 v2 mm r h
    cases h
  | succ fu ih =>
    intro v0 v1 v2 mm r h hx0
    rw [L_XPacker_packRows_101] at h
    refine zr_iload_n F zd_XPacker_packRows_101 rfl ?_
    refine zr_iload_n F zd_XPacker_packRows_102 rfl ?_
    refine zr_pcn 103 rfl ?_
    refine zr_icmp_ge F 117 zd_XPacker_packRows_103 (by decide) (fun hb39 => ?_) (fun hb39 => ?_)
    ·
      replace h := (if_pos hb39).symm.trans h
      obtain rfl := Option.some.inj h
      refine zr_loc (L' := [(0, .ref (b + v0)), (1, .int v1), (2, .int v2)]) ⟨rfl, rfl, rfl, trivial⟩ ?_
      exact hx0 
    ·
      replace h := (if_neg hb39).symm.trans h
      refine zr_aload_n F zd_XPacker_packRows_106 rfl ?_
      refine zr_iload_n F zd_XPacker_packRows_107 rfl ?_
      obtain ⟨le41, hs40, h⟩ := zoS_s h
      obtain ⟨p42, ep42, h⟩ := zoB_s h
      refine zr_callV0 F (k_XPacker_remember l D tA b sh _ ep42) zd_XPacker_packRows_108 (zW_o hs40 (by decide)) rfl zs_XPacker_139 rfl zq_XPacker_remember rfl rfl ⟨(Nat.le_of_ble_eq_true rfl), (Nat.le_of_ble_eq_true rfl)⟩ (Nat.le_of_ble_eq_true rfl) ⟨(Nat.le_of_ble_eq_true rfl), (Nat.le_of_ble_eq_true rfl)⟩ ?_
      refine zr_iinc (v := (v1 + 1)) F zd_XPacker_packRows_111 rfl rfl (by decide) ?_
      refine zr_goto F 101 zd_XPacker_packRows_114 (by decide) ?_
      refine zr_loc (L' := [(0, .ref (b + v0)), (1, .int (v1 + 1)), (2, .int v2)]) ⟨rfl, rfl, rfl, trivial⟩ ?_
      exact ih _ _ _ _ _ h hx0
theorem zw_1032 : (Jvm.Cond.methodLink "OrreryBox$Packer" (127 : Nat) ({ cls := "OrreryBox$Packer", name := "putLength", desc := "(I)V" } : Jvm.MethodName)) ∈ gw := gw_t 1032 (by decide +kernel) rfl
theorem zw_1034 : (Jvm.Cond.instanceMethod ({ cls := "OrreryBox$Packer", name := "putLength", desc := "(I)V" } : Jvm.MethodName)) ∈ gw := gw_t 1034 (by decide +kernel) rfl
theorem zv_40 : (Jvm.Cond.selects "OrreryBox$Packer" (⟨"OrreryBox$Packer", "putLength", "(I)V"⟩ : MethodName) ⟨"OrreryBox$Packer", "putLength", "(I)V"⟩) ∈ gw := gw_s 40 (by decide +kernel) rfl
theorem zs_XPacker_127 : zwV "OrreryBox$Packer" 127 "OrreryBox$Packer" zy_XPacker_putLength zb_XPacker_putLength 4 none := ⟨zw_1032, zw_1034, zv_40, zw_3, zc_XPacker_putLength⟩
theorem zw_1044 : (Jvm.Cond.methodLink "OrreryBox$Packer" (133 : Nat) ({ cls := "OrreryBox$Packer", name := "putDistance", desc := "(I)V" } : Jvm.MethodName)) ∈ gw := gw_t 1044 (by decide +kernel) rfl
theorem zw_1046 : (Jvm.Cond.instanceMethod ({ cls := "OrreryBox$Packer", name := "putDistance", desc := "(I)V" } : Jvm.MethodName)) ∈ gw := gw_t 1046 (by decide +kernel) rfl
theorem zv_43 : (Jvm.Cond.selects "OrreryBox$Packer" (⟨"OrreryBox$Packer", "putDistance", "(I)V"⟩ : MethodName) ⟨"OrreryBox$Packer", "putDistance", "(I)V"⟩) ∈ gw := gw_s 43 (by decide +kernel) rfl
theorem zs_XPacker_133 : zwV "OrreryBox$Packer" 133 "OrreryBox$Packer" zy_XPacker_putDistance zb_XPacker_putDistance 4 none := ⟨zw_1044, zw_1046, zv_43, zw_3, zc_XPacker_putDistance⟩
def L_XPacker_packRows_40 (sh : zSh) (fuel : Nat) (v0 : Nat) (v1 : Int32) (mm : zMem) : Option (Nat × Int32 × zMem) := match fuel with
  | 0 => none
  | fu + 1 => zoS (sh v0) 4 (fun le20 => (if (mm.1 v0 4) ≤ v1 then some (v0, v1, mm) else zoS (sh v0) 4 (fun le23 => Option.bind (F_XPacker_findRun sh mm v0 v1) (fun p24 => zoL (v1 + 1) (fun x25 => zoS (sh v0) 4 (fun le27 => (if (p24.1 v0 7) < 3 then zoS (sh v0) 4 (fun le30 => Option.bind (p24.2.2 v0 3) (fun a31 => zoS (sh a31) 100 (fun le33 => if (v1 : Int32) < 0 ∨ le33 ≤ (v1 : Int32).toNatClampNeg then none else zoS (sh v0) 4 (fun le36 => zoL (p24.1 a31 (v1 : Int32).toNatClampNeg) (fun x37 => Option.bind (F_XPacker_putSign sh p24 v0 x37) (fun p38 => Option.bind (L_XPacker_packRows_101 sh zfuel v0 v1 x25 p38) (fun q43 => L_XPacker_packRows_40 sh fu (q43.1) (q43.2.1) (q43.2.2.2)))))))) else zoS (sh v0) 4 (fun le45 => zoS (sh v0) 4 (fun le47 => Option.bind (F_XPacker_putLength sh p24 v0 (p24.1 v0 7)) (fun p48 => zoS (sh v0) 4 (fun le50 => zoS (sh v0) 4 (fun le52 => Option.bind (F_XPacker_putDistance sh p48 v0 (p48.1 v0 8)) (fun p53 => zoS (sh v0) 4 (fun le55 => zoL (v1 + (p53.1 v0 7)) (fun x56 => Option.bind (L_XPacker_packRows_101 sh zfuel v0 v1 x56 p53) (fun q57 => L_XPacker_packRows_40 sh fu (q57.1) (q57.2.1) (q57.2.2.2)))))))))))))))))
set_option maxHeartbeats 4000000 in
set_option maxRecDepth 100000 in
theorem lp_XPacker_packRows_40 {p : Program} {l : Launch} {e : Env} {s : State} {m : MethodId} {args : Array Value} {below : List Frame} {meth : Method} {c : Code} {D : va_G} {tA : Nat → ClassId} {b n : Nat} {post : Option Value → zV → Nat → Prop} {sh : zSh} (F : zF p s m args meth c zb_XPacker_packRows 3 "OrreryBox$Packer" D tA b) : ∀ (fuel : Nat) (v0 : Nat) (v1 : Int32) (mm : zMem) (r : Nat × Int32 × zMem), L_XPacker_packRows_40 sh fuel v0 v1 mm = some r → (Z p l e { frames := 4, cells := 0, slots := 0, locals := 88 } s m args below meth c D b 3 (MQ below (zQ D b post) args s 0 0 (fun q => b ≤ q)) (zW tA b sh r.2.2) n 0 0 120 [(0, .ref (b + (r.1))), (1, .int (r.2.1))] []) → Z p l e { frames := 4, cells := 0, slots := 0, locals := 88 } s m args below meth c D b 3 (MQ below (zQ D b post) args s 0 0 (fun q => b ≤ q)) (zW tA b sh mm) n 0 0 40 [(0, .ref (b + v0)), (1, .int v1)] [] := by
  intro fuel
  induction fuel with
  | zero =>
    intro v0 v1 mm r h
    cases h
  | succ fu ih =>
    intro v0 v1 mm r h hx0
    rw [L_XPacker_packRows_40] at h
    refine zr_iload_n F zd_XPacker_packRows_40 rfl ?_
    refine zr_aload_n F zd_XPacker_packRows_41 rfl ?_
    obtain ⟨le20, hs19, h⟩ := zoS_s h
    refine zr_get F 4 4 zd_XPacker_packRows_42 (zW_o hs19 (by decide)) rfl (by decide) zw_87 rfl (by rfl) ?_
    refine zr_icmp_ge F 120 zd_XPacker_packRows_45 (by decide) (fun hb21 => ?_) (fun hb21 => ?_)
    ·
      replace h := (if_pos hb21).symm.trans h
      obtain rfl := Option.some.inj h
      refine zr_loc (L' := [(0, .ref (b + v0)), (1, .int v1)]) ⟨rfl, rfl, trivial⟩ ?_
      exact hx0 
    ·
      replace h := (if_neg hb21).symm.trans h
      refine zr_aload_n F zd_XPacker_packRows_48 rfl ?_
      refine zr_iload_n F zd_XPacker_packRows_49 rfl ?_
      obtain ⟨le23, hs22, h⟩ := zoS_s h
      obtain ⟨p24, ep24, h⟩ := zoB_s h
      refine zr_callV0 F (k_XPacker_findRun l D tA b sh _ ep24) zd_XPacker_packRows_50 (zW_o hs22 (by decide)) rfl zs_XPacker_121 rfl zq_XPacker_findRun rfl rfl ⟨(Nat.le_of_ble_eq_true rfl), (Nat.le_of_ble_eq_true rfl)⟩ (Nat.le_of_ble_eq_true rfl) ⟨(Nat.le_of_ble_eq_true rfl), (Nat.le_of_ble_eq_true rfl)⟩ ?_
      refine zr_pcn 53 rfl ?_
      refine zr_iload_n F zd_XPacker_packRows_53 rfl ?_
      refine zr_iconstv (v := 1) F zd_XPacker_packRows_54 (by decide) ?_
      refine zr_iadd F zd_XPacker_packRows_55 ?_
      obtain ⟨x25, ex25, h⟩ := zoL_s h
      rw [← ex25]
      refine zr_istore_n F zd_XPacker_packRows_56 (by decide) ?_
      refine zr_aload_n F zd_XPacker_packRows_57 rfl ?_
      obtain ⟨le27, hs26, h⟩ := zoS_s h
      refine zr_get F 4 7 zd_XPacker_packRows_58 (zW_o hs26 (by decide)) rfl (by decide) zw_90 rfl (by rfl) ?_
      refine zr_iconstv (v := 3) F zd_XPacker_packRows_61 (by decide) ?_
      refine zr_icmp_lt F 91 zd_XPacker_packRows_62 (by decide) (fun hb28 => ?_) (fun hb28 => ?_)
      ·
        replace h := (if_pos hb28).symm.trans h
        refine zr_pcn 91 rfl ?_
        refine zr_aload_n F zd_XPacker_packRows_91 rfl ?_
        refine zr_aload_n F zd_XPacker_packRows_92 rfl ?_
        obtain ⟨le30, hs29, h⟩ := zoS_s h
        obtain ⟨a31, ea31, h⟩ := zoB_s h
        refine zr_get F 4 3 zd_XPacker_packRows_93 (zW_o hs29 (by decide)) rfl (by decide) zw_86 rfl (by rfl) ?_
        refine zr_tor ea31 ?_
        refine zr_iload_n F zd_XPacker_packRows_96 rfl ?_
        obtain ⟨le33, hs32, h⟩ := zoS_s h
        obtain ⟨hi34, h⟩ := zoI_s h
        refine zr_iald F zd_XPacker_packRows_97 (zW_a0 hs32) hi34 ?_
        obtain ⟨le36, hs35, h⟩ := zoS_s h
        obtain ⟨x37, ex37, h⟩ := zoL_s h
        rw [← ex37]
        obtain ⟨p38, ep38, h⟩ := zoB_s h
        refine zr_callV0 F (k_XPacker_putSign l D tA b sh _ ep38) zd_XPacker_packRows_98 (zW_o hs35 (by decide)) rfl zs_XPacker_136 rfl zq_XPacker_putSign rfl rfl ⟨(Nat.le_of_ble_eq_true rfl), (Nat.le_of_ble_eq_true rfl)⟩ (Nat.le_of_ble_eq_true rfl) ⟨(Nat.le_of_ble_eq_true rfl), (Nat.le_of_ble_eq_true rfl)⟩ ?_
        obtain ⟨q43, eq43, h⟩ := zoB_s h
        refine zr_loc (L' := [(0, .ref (b + v0)), (1, .int v1), (2, .int x25)]) ⟨rfl, rfl, rfl, trivial⟩ ?_
        refine lp_XPacker_packRows_101 F _ _ _ _ _ _ eq43 ?_
        ·
          refine zr_goto F 40 zd_XPacker_packRows_117 (by decide) ?_
          refine zr_loc (L' := [(0, .ref (b + (q43.1))), (1, .int (q43.2.1))]) ⟨rfl, rfl, trivial⟩ ?_
          exact ih _ _ _ _ h hx0
      ·
        replace h := (if_neg hb28).symm.trans h
        refine zr_aload_n F zd_XPacker_packRows_65 rfl ?_
        refine zr_pcn 66 rfl ?_
        refine zr_aload_n F zd_XPacker_packRows_66 rfl ?_
        obtain ⟨le45, hs44, h⟩ := zoS_s h
        refine zr_get F 4 7 zd_XPacker_packRows_67 (zW_o hs44 (by decide)) rfl (by decide) zw_90 rfl (by rfl) ?_
        obtain ⟨le47, hs46, h⟩ := zoS_s h
        obtain ⟨p48, ep48, h⟩ := zoB_s h
        refine zr_callV0 F (k_XPacker_putLength l D tA b sh _ ep48) zd_XPacker_packRows_70 (zW_o hs46 (by decide)) rfl zs_XPacker_127 rfl zq_XPacker_putLength rfl rfl ⟨(Nat.le_of_ble_eq_true rfl), (Nat.le_of_ble_eq_true rfl)⟩ (Nat.le_of_ble_eq_true rfl) ⟨(Nat.le_of_ble_eq_true rfl), (Nat.le_of_ble_eq_true rfl)⟩ ?_
        refine zr_aload_n F zd_XPacker_packRows_73 rfl ?_
        refine zr_aload_n F zd_XPacker_packRows_74 rfl ?_
        obtain ⟨le50, hs49, h⟩ := zoS_s h
        refine zr_get F 4 8 zd_XPacker_packRows_75 (zW_o hs49 (by decide)) rfl (by decide) zw_91 rfl (by rfl) ?_
        obtain ⟨le52, hs51, h⟩ := zoS_s h
        obtain ⟨p53, ep53, h⟩ := zoB_s h
        refine zr_callV0 F (k_XPacker_putDistance l D tA b sh _ ep53) zd_XPacker_packRows_78 (zW_o hs51 (by decide)) rfl zs_XPacker_133 rfl zq_XPacker_putDistance rfl rfl ⟨(Nat.le_of_ble_eq_true rfl), (Nat.le_of_ble_eq_true rfl)⟩ (Nat.le_of_ble_eq_true rfl) ⟨(Nat.le_of_ble_eq_true rfl), (Nat.le_of_ble_eq_true rfl)⟩ ?_
        refine zr_iload_n F zd_XPacker_packRows_81 rfl ?_
        refine zr_pcn 82 rfl ?_
        refine zr_aload_n F zd_XPacker_packRows_82 rfl ?_
        obtain ⟨le55, hs54, h⟩ := zoS_s h
        refine zr_get F 4 7 zd_XPacker_packRows_83 (zW_o hs54 (by decide)) rfl (by decide) zw_90 rfl (by rfl) ?_
        refine zr_iadd F zd_XPacker_packRows_86 ?_
        obtain ⟨x56, ex56, h⟩ := zoL_s h
        rw [← ex56]
        refine zr_istore_n F zd_XPacker_packRows_87 (by decide) ?_
        refine zr_goto F 101 zd_XPacker_packRows_88 (by decide) ?_
        obtain ⟨q57, eq57, h⟩ := zoB_s h
        refine zr_loc (L' := [(0, .ref (b + v0)), (1, .int v1), (2, .int x56)]) ⟨rfl, rfl, rfl, trivial⟩ ?_
        refine lp_XPacker_packRows_101 F _ _ _ _ _ _ eq57 ?_
        ·
          refine zr_goto F 40 zd_XPacker_packRows_117 (by decide) ?_
          refine zr_loc (L' := [(0, .ref (b + (q57.1))), (1, .int (q57.2.1))]) ⟨rfl, rfl, trivial⟩ ?_
          exact ih _ _ _ _ h hx0
def F_XPacker_packRows (sh : zSh) (mm : zMem) (o : Nat) : Option zMem := zoS (sh o) 4 (fun le2 => zoL (mI mm o 9 0) (fun mm3 => zoS (sh o) 4 (fun le5 => zoL (mI mm3 o 10 0) (fun mm6 => Option.bind (L_XPacker_packRows_12 sh zfuel o 0 mm6) (fun q15 => zoS (sh (q15.1)) 4 (fun le17 => Option.bind (F_XPacker_putLowFirst sh (q15.2.2) (q15.1) 3 3) (fun p18 => Option.bind (L_XPacker_packRows_40 sh zfuel (q15.1) 0 p18) (fun q58 => zoS (sh (q58.1)) 4 (fun le60 => Option.bind (F_XPacker_putSign sh (q58.2.2) (q58.1) 256) (fun p61 => zoS (sh (q58.1)) 4 (fun le63 => zoS (sh (q58.1)) 4 (fun le65 => zoL ((8 - (p61.1 (q58.1) 10)) &&& 7) (fun x66 => Option.bind (F_XPacker_putLowFirst sh p61 (q58.1) 0 x66) (fun p67 => some p67))))))))))))))
set_option maxHeartbeats 4000000 in
set_option maxRecDepth 100000 in
theorem k_XPacker_packRows (l : Launch) (D : va_G) (tA : Nat → ClassId) (b : Nat) (sh : zSh) (n : Nat) {mm : zMem} {o : Nat} {r : zMem} (h : F_XPacker_packRows sh mm o = some r) : zM l D tA b zy_XPacker_packRows zb_XPacker_packRows 3 none 4 88 0 0 [.ref (b + o)] (zW tA b sh mm) n (zE none (zW tA b sh r) n) := by
  unfold F_XPacker_packRows at h
  refine zM_of (own := "OrreryBox$Packer") (plainFor_of_name (by decide)) rfl (Nat.le_of_ble_eq_true rfl) (fun p e s m below meth c F hr hin hH => ?_)
  refine zr_aload_n F zd_XPacker_packRows_0 rfl ?_
  refine zr_iconstv (v := 0) F zd_XPacker_packRows_1 (by decide) ?_
  obtain ⟨le2, hs1, h⟩ := zoS_s h
  refine zr_put F 4 9 zd_XPacker_packRows_2 (zW_o hs1 (by decide)) rfl (by decide) zw_92 rfl rfl rfl rfl (by exact (Nat.le_of_ble_eq_true rfl)) ?_
  obtain ⟨mm3, emm3, h⟩ := zoL_s h
  refine zr_norm (zW tA b sh mm3) _ (by rw [emm3]; exact zW_pI (v := 0) hs1 (by decide) (zf_I_4_9 b _ _ _)) rfl ?_
  refine zr_aload_n F zd_XPacker_packRows_5 rfl ?_
  refine zr_iconstv (v := 0) F zd_XPacker_packRows_6 (by decide) ?_
  obtain ⟨le5, hs4, h⟩ := zoS_s h
  refine zr_put F 4 10 zd_XPacker_packRows_7 (zW_o hs4 (by decide)) rfl (by decide) zw_93 rfl rfl rfl rfl (by exact (Nat.le_of_ble_eq_true rfl)) ?_
  obtain ⟨mm6, emm6, h⟩ := zoL_s h
  refine zr_norm (zW tA b sh mm6) _ (by rw [emm6]; exact zW_pI (v := 0) hs4 (by decide) (zf_I_4_10 b _ _ _)) rfl ?_
  refine zr_iconstv (v := 0) F zd_XPacker_packRows_10 (by decide) ?_
  refine zr_pcn 11 rfl ?_
  refine zr_istore_n F zd_XPacker_packRows_11 (by decide) ?_
  obtain ⟨q15, eq15, h⟩ := zoB_s h
  refine zr_loc (L' := [(0, .ref (b + o)), (1, .int 0)]) ⟨rfl, rfl, trivial⟩ ?_
  refine lp_XPacker_packRows_12 F _ _ _ _ _ eq15 ?_
  ·
    refine zr_aload_n F zd_XPacker_packRows_32 rfl ?_
    refine zr_iconstv (v := 3) F zd_XPacker_packRows_33 (by decide) ?_
    refine zr_iconstv (v := 3) F zd_XPacker_packRows_34 (by decide) ?_
    obtain ⟨le17, hs16, h⟩ := zoS_s h
    obtain ⟨p18, ep18, h⟩ := zoB_s h
    refine zr_callV0 F (k_XPacker_putLowFirst l D tA b sh _ ep18) zd_XPacker_packRows_35 (zW_o hs16 (by decide)) rfl zs_XPacker_118 rfl zq_XPacker_putLowFirst rfl rfl ⟨(Nat.le_of_ble_eq_true rfl), (Nat.le_of_ble_eq_true rfl)⟩ (Nat.le_of_ble_eq_true rfl) ⟨(Nat.le_of_ble_eq_true rfl), (Nat.le_of_ble_eq_true rfl)⟩ ?_
    refine zr_iconstv (v := 0) F zd_XPacker_packRows_38 (by decide) ?_
    refine zr_pcn 39 rfl ?_
    refine zr_istore_n F zd_XPacker_packRows_39 (by decide) ?_
    obtain ⟨q58, eq58, h⟩ := zoB_s h
    refine zr_loc (L' := [(0, .ref (b + (q15.1))), (1, .int 0)]) ⟨rfl, rfl, trivial⟩ ?_
    refine lp_XPacker_packRows_40 F _ _ _ _ _ eq58 ?_
    ·
      refine zr_aload_n F zd_XPacker_packRows_120 rfl ?_
      refine zr_sipushv (v := 256) F zd_XPacker_packRows_121 (by decide) ?_
      refine zr_pcn 124 rfl ?_
      obtain ⟨le60, hs59, h⟩ := zoS_s h
      obtain ⟨p61, ep61, h⟩ := zoB_s h
      refine zr_callV0 F (k_XPacker_putSign l D tA b sh _ ep61) zd_XPacker_packRows_124 (zW_o hs59 (by decide)) rfl zs_XPacker_136 rfl zq_XPacker_putSign rfl rfl ⟨(Nat.le_of_ble_eq_true rfl), (Nat.le_of_ble_eq_true rfl)⟩ (Nat.le_of_ble_eq_true rfl) ⟨(Nat.le_of_ble_eq_true rfl), (Nat.le_of_ble_eq_true rfl)⟩ ?_
      refine zr_aload_n F zd_XPacker_packRows_127 rfl ?_
      refine zr_iconstv (v := 0) F zd_XPacker_packRows_128 (by decide) ?_
      refine zr_bipushv (v := 8) F zd_XPacker_packRows_129 (by decide) ?_
      refine zr_aload_n F zd_XPacker_packRows_131 rfl ?_
      obtain ⟨le63, hs62, h⟩ := zoS_s h
      refine zr_get F 4 10 zd_XPacker_packRows_132 (zW_o hs62 (by decide)) rfl (by decide) zw_93 rfl (by rfl) ?_
      refine zr_isub F zd_XPacker_packRows_135 ?_
      refine zr_bipushv (v := 7) F zd_XPacker_packRows_136 (by decide) ?_
      refine zr_pcn 138 rfl ?_
      refine zr_iand F zd_XPacker_packRows_138 ?_
      obtain ⟨le65, hs64, h⟩ := zoS_s h
      obtain ⟨x66, ex66, h⟩ := zoL_s h
      rw [← ex66]
      obtain ⟨p67, ep67, h⟩ := zoB_s h
      refine zr_callV0 F (k_XPacker_putLowFirst l D tA b sh _ ep67) zd_XPacker_packRows_139 (zW_o hs64 (by decide)) rfl zs_XPacker_118 rfl zq_XPacker_putLowFirst rfl rfl ⟨(Nat.le_of_ble_eq_true rfl), (Nat.le_of_ble_eq_true rfl)⟩ (Nat.le_of_ble_eq_true rfl) ⟨(Nat.le_of_ble_eq_true rfl), (Nat.le_of_ble_eq_true rfl)⟩ ?_
      obtain rfl := Option.some.inj h
      exact zr_vret F hr zd_XPacker_packRows_142 (Nat.le_of_ble_eq_true rfl) (Nat.le_of_ble_eq_true rfl) ⟨rfl, rfl, rfl⟩
