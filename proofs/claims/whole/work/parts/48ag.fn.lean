abbrev zb_XPacker_makeRows : ByteArray := prog_5_method_4_code
def zy_XPacker_makeRows : MethodName := ⟨"OrreryBox$Packer", "makeRows", "(II)V"⟩
theorem zc_XPacker_makeRows : Cond.code zy_XPacker_makeRows zb_XPacker_makeRows 6 none ∈ gw := gw_t 915 (by decide +kernel) rfl
theorem zq_XPacker_makeRows : zy_XPacker_makeRows.cls ≠ "java/lang/invoke/MethodHandle" ∧ zy_XPacker_makeRows.cls ≠ "java/lang/invoke/VarHandle" ∧ (parseMethodDescriptor zy_XPacker_makeRows.desc).map (fun d => d.parameters.length) = some 2 := by decide +kernel
theorem zd_XPacker_makeRows_0 : decode zb_XPacker_makeRows 0 = .ok (.aload_n 0, 1) := by decide +kernel
theorem zd_XPacker_makeRows_1 : decode zb_XPacker_makeRows 1 = .ok (.iconst 0, 1) := by decide +kernel
theorem zd_XPacker_makeRows_2 : decode zb_XPacker_makeRows 2 = .ok (.putfield 70, 3) := by decide +kernel
theorem zd_XPacker_makeRows_5 : decode zb_XPacker_makeRows 5 = .ok (.iconst 0, 1) := by decide +kernel
theorem zd_XPacker_makeRows_6 : decode zb_XPacker_makeRows 6 = .ok (.istore_n 3, 1) := by decide +kernel
theorem zd_XPacker_makeRows_7 : decode zb_XPacker_makeRows 7 = .ok (.iload_n 3, 1) := by decide +kernel
theorem zd_XPacker_makeRows_8 : decode zb_XPacker_makeRows 8 = .ok (.iload_n 2, 1) := by decide +kernel
theorem zd_XPacker_makeRows_9 : decode zb_XPacker_makeRows 9 = .ok (.if_icmp .ge 82, 3) := by decide +kernel
theorem zd_XPacker_makeRows_12 : decode zb_XPacker_makeRows 12 = .ok (.aload_n 0, 1) := by decide +kernel
theorem zd_XPacker_makeRows_13 : decode zb_XPacker_makeRows 13 = .ok (.iload_n 3, 1) := by decide +kernel
theorem zd_XPacker_makeRows_14 : decode zb_XPacker_makeRows 14 = .ok (.iload_n 1, 1) := by decide +kernel
theorem zd_XPacker_makeRows_15 : decode zb_XPacker_makeRows 15 = .ok (.invokevirtual 73, 3) := by decide +kernel
theorem zd_XPacker_makeRows_18 : decode zb_XPacker_makeRows 18 = .ok (.istore 4, 2) := by decide +kernel
theorem zd_XPacker_makeRows_20 : decode zb_XPacker_makeRows 20 = .ok (.aload_n 0, 1) := by decide +kernel
theorem zd_XPacker_makeRows_21 : decode zb_XPacker_makeRows 21 = .ok (.getfield 19, 3) := by decide +kernel
theorem zd_XPacker_makeRows_24 : decode zb_XPacker_makeRows 24 = .ok (.aload_n 0, 1) := by decide +kernel
theorem zd_XPacker_makeRows_25 : decode zb_XPacker_makeRows 25 = .ok (.getfield 70, 3) := by decide +kernel
theorem zd_XPacker_makeRows_28 : decode zb_XPacker_makeRows 28 = .ok (.iload 4, 2) := by decide +kernel
theorem zd_XPacker_makeRows_30 : decode zb_XPacker_makeRows 30 = .ok (.iastore, 1) := by decide +kernel
theorem zd_XPacker_makeRows_31 : decode zb_XPacker_makeRows 31 = .ok (.aload_n 0, 1) := by decide +kernel
theorem zd_XPacker_makeRows_32 : decode zb_XPacker_makeRows 32 = .ok (.dup, 1) := by decide +kernel
theorem zd_XPacker_makeRows_33 : decode zb_XPacker_makeRows 33 = .ok (.getfield 70, 3) := by decide +kernel
theorem zd_XPacker_makeRows_36 : decode zb_XPacker_makeRows 36 = .ok (.iconst 1, 1) := by decide +kernel
theorem zd_XPacker_makeRows_37 : decode zb_XPacker_makeRows 37 = .ok (.iadd, 1) := by decide +kernel
theorem zd_XPacker_makeRows_38 : decode zb_XPacker_makeRows 38 = .ok (.putfield 70, 3) := by decide +kernel
theorem zd_XPacker_makeRows_41 : decode zb_XPacker_makeRows 41 = .ok (.iconst 0, 1) := by decide +kernel
theorem zd_XPacker_makeRows_42 : decode zb_XPacker_makeRows 42 = .ok (.istore 5, 2) := by decide +kernel
theorem zd_XPacker_makeRows_44 : decode zb_XPacker_makeRows 44 = .ok (.iload 5, 2) := by decide +kernel
theorem zd_XPacker_makeRows_46 : decode zb_XPacker_makeRows 46 = .ok (.iload_n 1, 1) := by decide +kernel
theorem zd_XPacker_makeRows_47 : decode zb_XPacker_makeRows 47 = .ok (.if_icmp .ge 38, 3) := by decide +kernel
theorem zd_XPacker_makeRows_50 : decode zb_XPacker_makeRows 50 = .ok (.aload_n 0, 1) := by decide +kernel
theorem zd_XPacker_makeRows_51 : decode zb_XPacker_makeRows 51 = .ok (.getfield 19, 3) := by decide +kernel
theorem zd_XPacker_makeRows_54 : decode zb_XPacker_makeRows 54 = .ok (.aload_n 0, 1) := by decide +kernel
theorem zd_XPacker_makeRows_55 : decode zb_XPacker_makeRows 55 = .ok (.getfield 70, 3) := by decide +kernel
theorem zd_XPacker_makeRows_58 : decode zb_XPacker_makeRows 58 = .ok (.aload_n 0, 1) := by decide +kernel
theorem zd_XPacker_makeRows_59 : decode zb_XPacker_makeRows 59 = .ok (.iload 4, 2) := by decide +kernel
theorem zd_XPacker_makeRows_61 : decode zb_XPacker_makeRows 61 = .ok (.iload 5, 2) := by decide +kernel
theorem zd_XPacker_makeRows_63 : decode zb_XPacker_makeRows 63 = .ok (.iload_n 3, 1) := by decide +kernel
theorem zd_XPacker_makeRows_64 : decode zb_XPacker_makeRows 64 = .ok (.iload_n 1, 1) := by decide +kernel
theorem zd_XPacker_makeRows_65 : decode zb_XPacker_makeRows 65 = .ok (.invokevirtual 77, 3) := by decide +kernel
theorem zd_XPacker_makeRows_68 : decode zb_XPacker_makeRows 68 = .ok (.iastore, 1) := by decide +kernel
theorem zd_XPacker_makeRows_69 : decode zb_XPacker_makeRows 69 = .ok (.aload_n 0, 1) := by decide +kernel
theorem zd_XPacker_makeRows_70 : decode zb_XPacker_makeRows 70 = .ok (.dup, 1) := by decide +kernel
theorem zd_XPacker_makeRows_71 : decode zb_XPacker_makeRows 71 = .ok (.getfield 70, 3) := by decide +kernel
theorem zd_XPacker_makeRows_74 : decode zb_XPacker_makeRows 74 = .ok (.iconst 1, 1) := by decide +kernel
theorem zd_XPacker_makeRows_75 : decode zb_XPacker_makeRows 75 = .ok (.iadd, 1) := by decide +kernel
theorem zd_XPacker_makeRows_76 : decode zb_XPacker_makeRows 76 = .ok (.putfield 70, 3) := by decide +kernel
theorem zd_XPacker_makeRows_79 : decode zb_XPacker_makeRows 79 = .ok (.iinc 5 1, 3) := by decide +kernel
theorem zd_XPacker_makeRows_82 : decode zb_XPacker_makeRows 82 = .ok (.goto (-38), 3) := by decide +kernel
theorem zd_XPacker_makeRows_85 : decode zb_XPacker_makeRows 85 = .ok (.iinc 3 1, 3) := by decide +kernel
theorem zd_XPacker_makeRows_88 : decode zb_XPacker_makeRows 88 = .ok (.goto (-81), 3) := by decide +kernel
theorem zd_XPacker_makeRows_91 : decode zb_XPacker_makeRows 91 = .ok (.return_, 1) := by decide +kernel
theorem zf_I_4_4 (b : Nat) (m : zMem) (k : Nat) (v : Int32) : (zfl b 4 m k).set 4 (.int v) = zfl b 4 (mI m k 4 v) k := by simp [zfl, mI, upd, vp_updL]
theorem zw_916 : (Jvm.Cond.methodLink "OrreryBox$Packer" (73 : Nat) ({ cls := "OrreryBox$Packer", name := "bestFilter", desc := "(II)I" } : Jvm.MethodName)) ∈ gw := gw_t 916 (by decide +kernel) rfl
theorem zw_918 : (Jvm.Cond.instanceMethod ({ cls := "OrreryBox$Packer", name := "bestFilter", desc := "(II)I" } : Jvm.MethodName)) ∈ gw := gw_t 918 (by decide +kernel) rfl
theorem zv_28 : (Jvm.Cond.selects "OrreryBox$Packer" (⟨"OrreryBox$Packer", "bestFilter", "(II)I"⟩ : MethodName) ⟨"OrreryBox$Packer", "bestFilter", "(II)I"⟩) ∈ gw := gw_s 28 (by decide +kernel) rfl
theorem zs_XPacker_73 : zwV "OrreryBox$Packer" 73 "OrreryBox$Packer" zy_XPacker_bestFilter zb_XPacker_bestFilter 9 (some .int) := ⟨zw_916, zw_918, zv_28, zw_3, zc_XPacker_bestFilter⟩
def L_XPacker_makeRows_44 (sh : zSh) (fuel : Nat) (v0 : Nat) (v1 : Int32) (v2 : Int32) (v3 : Int32) (v4 : Int32) (v5 : Int32) (mm : zMem) : Option (Nat × Int32 × Int32 × Int32 × Int32 × Int32 × zMem) := match fuel with
  | 0 => none
  | fu + 1 => (if v1 ≤ v5 then some (v0, v1, v2, v3, v4, v5, mm) else zoS (sh v0) 4 (fun le26 => Option.bind (mm.2.2 v0 3) (fun a27 => zoS (sh v0) 4 (fun le29 => zoS (sh v0) 4 (fun le31 => Option.bind (F_XPacker_filtered sh mm v0 v4 v5 v3 v1) (fun p32 => zoL (mm.1 v0 4) (fun i33 => zoS (sh a27) 100 (fun le35 => if (i33 : Int32) < 0 ∨ le35 ≤ (i33 : Int32).toNatClampNeg then none else zoL (mI (p32.2) a27 (i33 : Int32).toNatClampNeg (p32.1)) (fun mm37 => zoS (sh v0) 4 (fun le39 => zoL ((mm37.1 v0 4) + 1) (fun x40 => zoS (sh v0) 4 (fun le42 => zoL (mI mm37 v0 4 x40) (fun mm43 => L_XPacker_makeRows_44 sh fu v0 v1 v2 v3 v4 (v5 + 1) mm43)))))))))))))
set_option maxHeartbeats 4000000 in
set_option maxRecDepth 100000 in
theorem lp_XPacker_makeRows_44 {p : Program} {l : Launch} {e : Env} {s : State} {m : MethodId} {args : Array Value} {below : List Frame} {meth : Method} {c : Code} {D : va_G} {tA : Nat → ClassId} {b n : Nat} {post : Option Value → zV → Nat → Prop} {sh : zSh} (F : zF p s m args meth c zb_XPacker_makeRows 6 "OrreryBox$Packer" D tA b) : ∀ (fuel : Nat) (v0 : Nat) (v1 : Int32) (v2 : Int32) (v3 : Int32) (v4 : Int32) (v5 : Int32) (mm : zMem) (r : Nat × Int32 × Int32 × Int32 × Int32 × Int32 × zMem), L_XPacker_makeRows_44 sh fuel v0 v1 v2 v3 v4 v5 mm = some r → (Z p l e { frames := 5, cells := 0, slots := 0, locals := 124 } s m args below meth c D b 6 (MQ below (zQ D b post) args s 0 0 (fun q => b ≤ q)) (zW tA b sh r.2.2.2.2.2.2) n 0 0 85 [(0, .ref (b + (r.1))), (1, .int (r.2.1)), (2, .int (r.2.2.1)), (3, .int (r.2.2.2.1)), (4, .int (r.2.2.2.2.1)), (5, .int (r.2.2.2.2.2.1))] []) → Z p l e { frames := 5, cells := 0, slots := 0, locals := 124 } s m args below meth c D b 6 (MQ below (zQ D b post) args s 0 0 (fun q => b ≤ q)) (zW tA b sh mm) n 0 0 44 [(0, .ref (b + v0)), (1, .int v1), (2, .int v2), (3, .int v3), (4, .int v4), (5, .int v5)] [] := by
  intro fuel
  induction fuel with
  | zero =>
    intro v0 v1 v2 v3 v4 v5 mm r h
    cases h
  | succ fu ih =>
    intro v0 v1 v2 v3 v4 v5 mm r h hx0
    rw [L_XPacker_makeRows_44] at h
    refine zr_iload F zd_XPacker_makeRows_44 rfl ?_
    refine zr_iload_n F zd_XPacker_makeRows_46 rfl ?_
    refine zr_icmp_ge F 85 zd_XPacker_makeRows_47 (by decide) (fun hb24 => ?_) (fun hb24 => ?_)
    ·
      replace h := (if_pos hb24).symm.trans h
      obtain rfl := Option.some.inj h
      refine zr_loc (L' := [(0, .ref (b + v0)), (1, .int v1), (2, .int v2), (3, .int v3), (4, .int v4), (5, .int v5)]) ⟨rfl, rfl, rfl, rfl, rfl, rfl, trivial⟩ ?_
      exact hx0 
    ·
      replace h := (if_neg hb24).symm.trans h
      refine zr_aload_n F zd_XPacker_makeRows_50 rfl ?_
      refine zr_pcn 51 rfl ?_
      obtain ⟨le26, hs25, h⟩ := zoS_s h
      obtain ⟨a27, ea27, h⟩ := zoB_s h
      refine zr_get F 4 3 zd_XPacker_makeRows_51 (zW_o hs25 (by decide)) rfl (by decide) zw_86 rfl (by rfl) ?_
      refine zr_tor ea27 ?_
      refine zr_aload_n F zd_XPacker_makeRows_54 rfl ?_
      obtain ⟨le29, hs28, h⟩ := zoS_s h
      refine zr_get F 4 4 zd_XPacker_makeRows_55 (zW_o hs28 (by decide)) rfl (by decide) zw_87 rfl (by rfl) ?_
      refine zr_aload_n F zd_XPacker_makeRows_58 rfl ?_
      refine zr_iload F zd_XPacker_makeRows_59 rfl ?_
      refine zr_iload F zd_XPacker_makeRows_61 rfl ?_
      refine zr_iload_n F zd_XPacker_makeRows_63 rfl ?_
      refine zr_iload_n F zd_XPacker_makeRows_64 rfl ?_
      refine zr_pcn 65 rfl ?_
      obtain ⟨le31, hs30, h⟩ := zoS_s h
      obtain ⟨p32, ep32, h⟩ := zoB_s h
      refine zr_callV1 F (k_XPacker_filtered l D tA b sh _ ep32) zd_XPacker_makeRows_65 (zW_o hs30 (by decide)) rfl zs_XPacker_77 rfl zq_XPacker_filtered rfl rfl ⟨(Nat.le_of_ble_eq_true rfl), (Nat.le_of_ble_eq_true rfl)⟩ (Nat.le_of_ble_eq_true rfl) ⟨(Nat.le_of_ble_eq_true rfl), (Nat.le_of_ble_eq_true rfl)⟩ ?_
      obtain ⟨i33, ei33, h⟩ := zoL_s h
      rw [← ei33]
      obtain ⟨le35, hs34, h⟩ := zoS_s h
      obtain ⟨hi36, h⟩ := zoI_s h
      refine zr_iast F zd_XPacker_makeRows_68 (zW_a0 hs34) hi36 ?_
      obtain ⟨mm37, emm37, h⟩ := zoL_s h
      refine zr_norm (zW tA b sh mm37) _ (by rw [emm37]; exact zW_s0 hs34) rfl ?_
      refine zr_aload_n F zd_XPacker_makeRows_69 rfl ?_
      refine zr_dup F zd_XPacker_makeRows_70 rfl ?_
      obtain ⟨le39, hs38, h⟩ := zoS_s h
      refine zr_get F 4 4 zd_XPacker_makeRows_71 (zW_o hs38 (by decide)) rfl (by decide) zw_87 rfl (by rfl) ?_
      refine zr_iconstv (v := 1) F zd_XPacker_makeRows_74 (by decide) ?_
      refine zr_iadd F zd_XPacker_makeRows_75 ?_
      obtain ⟨x40, ex40, h⟩ := zoL_s h
      rw [← ex40]
      obtain ⟨le42, hs41, h⟩ := zoS_s h
      refine zr_put F 4 4 zd_XPacker_makeRows_76 (zW_o hs41 (by decide)) rfl (by decide) zw_87 rfl rfl rfl rfl (by exact (Nat.le_of_ble_eq_true rfl)) ?_
      obtain ⟨mm43, emm43, h⟩ := zoL_s h
      refine zr_norm (zW tA b sh mm43) _ (by rw [emm43]; exact zW_pI (v := x40) hs41 (by decide) (zf_I_4_4 b _ _ _)) rfl ?_
      refine zr_pcn 79 rfl ?_
      refine zr_iinc (v := (v5 + 1)) F zd_XPacker_makeRows_79 rfl rfl (by decide) ?_
      refine zr_goto F 44 zd_XPacker_makeRows_82 (by decide) ?_
      refine zr_loc (L' := [(0, .ref (b + v0)), (1, .int v1), (2, .int v2), (3, .int v3), (4, .int v4), (5, .int (v5 + 1))]) ⟨rfl, rfl, rfl, rfl, rfl, rfl, trivial⟩ ?_
      exact ih _ _ _ _ _ _ _ _ h hx0
def L_XPacker_makeRows_7 (sh : zSh) (fuel : Nat) (v0 : Nat) (v1 : Int32) (v2 : Int32) (v3 : Int32) (mm : zMem) : Option (Nat × Int32 × Int32 × Int32 × zMem) := match fuel with
  | 0 => none
  | fu + 1 => (if v2 ≤ v3 then some (v0, v1, v2, v3, mm) else zoS (sh v0) 4 (fun le6 => Option.bind (F_XPacker_bestFilter sh mm v0 v3 v1) (fun p7 => zoS (sh v0) 4 (fun le9 => Option.bind ((p7.2).2.2 v0 3) (fun a10 => zoS (sh v0) 4 (fun le12 => zoL ((p7.2).1 v0 4) (fun i13 => zoS (sh a10) 100 (fun le15 => if (i13 : Int32) < 0 ∨ le15 ≤ (i13 : Int32).toNatClampNeg then none else zoL (mI (p7.2) a10 (i13 : Int32).toNatClampNeg (p7.1)) (fun mm17 => zoS (sh v0) 4 (fun le19 => zoL ((mm17.1 v0 4) + 1) (fun x20 => zoS (sh v0) 4 (fun le22 => zoL (mI mm17 v0 4 x20) (fun mm23 => Option.bind (L_XPacker_makeRows_44 sh zfuel v0 v1 v2 v3 (p7.1) 0 mm23) (fun q44 => L_XPacker_makeRows_7 sh fu (q44.1) (q44.2.1) (q44.2.2.1) (q44.2.2.2.1 + 1) (q44.2.2.2.2.2.2)))))))))))))))
set_option maxHeartbeats 4000000 in
set_option maxRecDepth 100000 in
theorem lp_XPacker_makeRows_7 {p : Program} {l : Launch} {e : Env} {s : State} {m : MethodId} {args : Array Value} {below : List Frame} {meth : Method} {c : Code} {D : va_G} {tA : Nat → ClassId} {b n : Nat} {post : Option Value → zV → Nat → Prop} {sh : zSh} (F : zF p s m args meth c zb_XPacker_makeRows 6 "OrreryBox$Packer" D tA b) : ∀ (fuel : Nat) (v0 : Nat) (v1 : Int32) (v2 : Int32) (v3 : Int32) (mm : zMem) (r : Nat × Int32 × Int32 × Int32 × zMem), L_XPacker_makeRows_7 sh fuel v0 v1 v2 v3 mm = some r → (Z p l e { frames := 5, cells := 0, slots := 0, locals := 124 } s m args below meth c D b 6 (MQ below (zQ D b post) args s 0 0 (fun q => b ≤ q)) (zW tA b sh r.2.2.2.2) n 0 0 91 [(0, .ref (b + (r.1))), (1, .int (r.2.1)), (2, .int (r.2.2.1)), (3, .int (r.2.2.2.1))] []) → Z p l e { frames := 5, cells := 0, slots := 0, locals := 124 } s m args below meth c D b 6 (MQ below (zQ D b post) args s 0 0 (fun q => b ≤ q)) (zW tA b sh mm) n 0 0 7 [(0, .ref (b + v0)), (1, .int v1), (2, .int v2), (3, .int v3)] [] := by
  intro fuel
  induction fuel with
  | zero =>
    intro v0 v1 v2 v3 mm r h
    cases h
  | succ fu ih =>
    intro v0 v1 v2 v3 mm r h hx0
    rw [L_XPacker_makeRows_7] at h
    refine zr_iload_n F zd_XPacker_makeRows_7 rfl ?_
    refine zr_iload_n F zd_XPacker_makeRows_8 rfl ?_
    refine zr_pcn 9 rfl ?_
    refine zr_icmp_ge F 91 zd_XPacker_makeRows_9 (by decide) (fun hb4 => ?_) (fun hb4 => ?_)
    ·
      replace h := (if_pos hb4).symm.trans h
      obtain rfl := Option.some.inj h
      refine zr_loc (L' := [(0, .ref (b + v0)), (1, .int v1), (2, .int v2), (3, .int v3)]) ⟨rfl, rfl, rfl, rfl, trivial⟩ ?_
      exact hx0 
    ·
      replace h := (if_neg hb4).symm.trans h
      refine zr_aload_n F zd_XPacker_makeRows_12 rfl ?_
      refine zr_iload_n F zd_XPacker_makeRows_13 rfl ?_
      refine zr_iload_n F zd_XPacker_makeRows_14 rfl ?_
      obtain ⟨le6, hs5, h⟩ := zoS_s h
      obtain ⟨p7, ep7, h⟩ := zoB_s h
      refine zr_callV1 F (k_XPacker_bestFilter l D tA b sh _ ep7) zd_XPacker_makeRows_15 (zW_o hs5 (by decide)) rfl zs_XPacker_73 rfl zq_XPacker_bestFilter rfl rfl ⟨(Nat.le_of_ble_eq_true rfl), (Nat.le_of_ble_eq_true rfl)⟩ (Nat.le_of_ble_eq_true rfl) ⟨(Nat.le_of_ble_eq_true rfl), (Nat.le_of_ble_eq_true rfl)⟩ ?_
      refine zr_istore F zd_XPacker_makeRows_18 (by decide) ?_
      refine zr_aload_n F zd_XPacker_makeRows_20 rfl ?_
      obtain ⟨le9, hs8, h⟩ := zoS_s h
      obtain ⟨a10, ea10, h⟩ := zoB_s h
      refine zr_get F 4 3 zd_XPacker_makeRows_21 (zW_o hs8 (by decide)) rfl (by decide) zw_86 rfl (by rfl) ?_
      refine zr_tor ea10 ?_
      refine zr_pcn 24 rfl ?_
      refine zr_aload_n F zd_XPacker_makeRows_24 rfl ?_
      obtain ⟨le12, hs11, h⟩ := zoS_s h
      refine zr_get F 4 4 zd_XPacker_makeRows_25 (zW_o hs11 (by decide)) rfl (by decide) zw_87 rfl (by rfl) ?_
      refine zr_iload F zd_XPacker_makeRows_28 rfl ?_
      obtain ⟨i13, ei13, h⟩ := zoL_s h
      rw [← ei13]
      obtain ⟨le15, hs14, h⟩ := zoS_s h
      obtain ⟨hi16, h⟩ := zoI_s h
      refine zr_iast F zd_XPacker_makeRows_30 (zW_a0 hs14) hi16 ?_
      obtain ⟨mm17, emm17, h⟩ := zoL_s h
      refine zr_norm (zW tA b sh mm17) _ (by rw [emm17]; exact zW_s0 hs14) rfl ?_
      refine zr_aload_n F zd_XPacker_makeRows_31 rfl ?_
      refine zr_dup F zd_XPacker_makeRows_32 rfl ?_
      obtain ⟨le19, hs18, h⟩ := zoS_s h
      refine zr_get F 4 4 zd_XPacker_makeRows_33 (zW_o hs18 (by decide)) rfl (by decide) zw_87 rfl (by rfl) ?_
      refine zr_iconstv (v := 1) F zd_XPacker_makeRows_36 (by decide) ?_
      refine zr_pcn 37 rfl ?_
      refine zr_iadd F zd_XPacker_makeRows_37 ?_
      obtain ⟨x20, ex20, h⟩ := zoL_s h
      rw [← ex20]
      obtain ⟨le22, hs21, h⟩ := zoS_s h
      refine zr_put F 4 4 zd_XPacker_makeRows_38 (zW_o hs21 (by decide)) rfl (by decide) zw_87 rfl rfl rfl rfl (by exact (Nat.le_of_ble_eq_true rfl)) ?_
      obtain ⟨mm23, emm23, h⟩ := zoL_s h
      refine zr_norm (zW tA b sh mm23) _ (by rw [emm23]; exact zW_pI (v := x20) hs21 (by decide) (zf_I_4_4 b _ _ _)) rfl ?_
      refine zr_iconstv (v := 0) F zd_XPacker_makeRows_41 (by decide) ?_
      refine zr_istore F zd_XPacker_makeRows_42 (by decide) ?_
      obtain ⟨q44, eq44, h⟩ := zoB_s h
      refine zr_loc (L' := [(0, .ref (b + v0)), (1, .int v1), (2, .int v2), (3, .int v3), (4, .int (p7.1)), (5, .int 0)]) ⟨rfl, rfl, rfl, rfl, rfl, rfl, trivial⟩ ?_
      refine lp_XPacker_makeRows_44 F _ _ _ _ _ _ _ _ _ eq44 ?_
      ·
        refine zr_iinc (v := (q44.2.2.2.1 + 1)) F zd_XPacker_makeRows_85 rfl rfl (by decide) ?_
        refine zr_loc (L' := [(0, .ref (b + (q44.1))), (1, .int (q44.2.1)), (2, .int (q44.2.2.1)), (3, .int (q44.2.2.2.1 + 1))]) ⟨rfl, rfl, rfl, rfl, trivial⟩ ?_
        refine zr_goto F 7 zd_XPacker_makeRows_88 (by decide) ?_
        refine zr_loc (L' := [(0, .ref (b + (q44.1))), (1, .int (q44.2.1)), (2, .int (q44.2.2.1)), (3, .int (q44.2.2.2.1 + 1))]) ⟨rfl, rfl, rfl, rfl, trivial⟩ ?_
        exact ih _ _ _ _ _ _ h hx0
def F_XPacker_makeRows (sh : zSh) (mm : zMem) (o : Nat) (x0_ : Int32) (x1_ : Int32) : Option zMem := zoS (sh o) 4 (fun le2 => zoL (mI mm o 4 0) (fun mm3 => Option.bind (L_XPacker_makeRows_7 sh zfuel o x0_ x1_ 0 mm3) (fun q45 => some (q45.2.2.2.2))))
set_option maxHeartbeats 4000000 in
set_option maxRecDepth 100000 in
theorem k_XPacker_makeRows (l : Launch) (D : va_G) (tA : Nat → ClassId) (b : Nat) (sh : zSh) (n : Nat) {mm : zMem} {o : Nat} {x0_ : Int32} {x1_ : Int32} {r : zMem} (h : F_XPacker_makeRows sh mm o x0_ x1_ = some r) : zM l D tA b zy_XPacker_makeRows zb_XPacker_makeRows 6 none 5 124 0 0 [.ref (b + o), .int x0_, .int x1_] (zW tA b sh mm) n (zE none (zW tA b sh r) n) := by
  unfold F_XPacker_makeRows at h
  refine zM_of (own := "OrreryBox$Packer") (plainFor_of_name (by decide)) rfl (Nat.le_of_ble_eq_true rfl) (fun p e s m below meth c F hr hin hH => ?_)
  refine zr_aload_n F zd_XPacker_makeRows_0 rfl ?_
  refine zr_iconstv (v := 0) F zd_XPacker_makeRows_1 (by decide) ?_
  obtain ⟨le2, hs1, h⟩ := zoS_s h
  refine zr_put F 4 4 zd_XPacker_makeRows_2 (zW_o hs1 (by decide)) rfl (by decide) zw_87 rfl rfl rfl rfl (by exact (Nat.le_of_ble_eq_true rfl)) ?_
  obtain ⟨mm3, emm3, h⟩ := zoL_s h
  refine zr_norm (zW tA b sh mm3) _ (by rw [emm3]; exact zW_pI (v := 0) hs1 (by decide) (zf_I_4_4 b _ _ _)) rfl ?_
  refine zr_iconstv (v := 0) F zd_XPacker_makeRows_5 (by decide) ?_
  refine zr_istore_n F zd_XPacker_makeRows_6 (by decide) ?_
  obtain ⟨q45, eq45, h⟩ := zoB_s h
  refine zr_loc (L' := [(0, .ref (b + o)), (1, .int x0_), (2, .int x1_), (3, .int 0)]) ⟨rfl, rfl, rfl, rfl, trivial⟩ ?_
  refine lp_XPacker_makeRows_7 F _ _ _ _ _ _ _ eq45 ?_
  ·
    obtain rfl := Option.some.inj h
    exact zr_vret F hr zd_XPacker_makeRows_91 (Nat.le_of_ble_eq_true rfl) (Nat.le_of_ble_eq_true rfl) ⟨rfl, rfl, rfl⟩
abbrev zb_XPacker_putSign : ByteArray := prog_5_method_20_code
def zy_XPacker_putSign : MethodName := ⟨"OrreryBox$Packer", "putSign", "(I)V"⟩
theorem zc_XPacker_putSign : Cond.code zy_XPacker_putSign zb_XPacker_putSign 2 none ∈ gw := gw_t 1039 (by decide +kernel) rfl
theorem zq_XPacker_putSign : zy_XPacker_putSign.cls ≠ "java/lang/invoke/MethodHandle" ∧ zy_XPacker_putSign.cls ≠ "java/lang/invoke/VarHandle" ∧ (parseMethodDescriptor zy_XPacker_putSign.desc).map (fun d => d.parameters.length) = some 1 := by decide +kernel
theorem zd_XPacker_putSign_0 : decode zb_XPacker_putSign 0 = .ok (.iload_n 1, 1) := by decide +kernel
theorem zd_XPacker_putSign_1 : decode zb_XPacker_putSign 1 = .ok (.sipush 144, 3) := by decide +kernel
theorem zd_XPacker_putSign_4 : decode zb_XPacker_putSign 4 = .ok (.if_icmp .ge 16, 3) := by decide +kernel
theorem zd_XPacker_putSign_7 : decode zb_XPacker_putSign 7 = .ok (.aload_n 0, 1) := by decide +kernel
theorem zd_XPacker_putSign_8 : decode zb_XPacker_putSign 8 = .ok (.bipush 48, 2) := by decide +kernel
theorem zd_XPacker_putSign_10 : decode zb_XPacker_putSign 10 = .ok (.iload_n 1, 1) := by decide +kernel
theorem zd_XPacker_putSign_11 : decode zb_XPacker_putSign 11 = .ok (.iadd, 1) := by decide +kernel
theorem zd_XPacker_putSign_12 : decode zb_XPacker_putSign 12 = .ok (.bipush 8, 2) := by decide +kernel
theorem zd_XPacker_putSign_14 : decode zb_XPacker_putSign 14 = .ok (.invokevirtual 148, 3) := by decide +kernel
theorem zd_XPacker_putSign_17 : decode zb_XPacker_putSign 17 = .ok (.goto 64, 3) := by decide +kernel
theorem zd_XPacker_putSign_20 : decode zb_XPacker_putSign 20 = .ok (.iload_n 1, 1) := by decide +kernel
theorem zd_XPacker_putSign_21 : decode zb_XPacker_putSign 21 = .ok (.sipush 256, 3) := by decide +kernel
theorem zd_XPacker_putSign_24 : decode zb_XPacker_putSign 24 = .ok (.if_icmp .ge 21, 3) := by decide +kernel
theorem zd_XPacker_putSign_27 : decode zb_XPacker_putSign 27 = .ok (.aload_n 0, 1) := by decide +kernel
theorem zd_XPacker_putSign_28 : decode zb_XPacker_putSign 28 = .ok (.sipush 400, 3) := by decide +kernel
theorem zd_XPacker_putSign_31 : decode zb_XPacker_putSign 31 = .ok (.iload_n 1, 1) := by decide +kernel
theorem zd_XPacker_putSign_32 : decode zb_XPacker_putSign 32 = .ok (.iadd, 1) := by decide +kernel
theorem zd_XPacker_putSign_33 : decode zb_XPacker_putSign 33 = .ok (.sipush 144, 3) := by decide +kernel
theorem zd_XPacker_putSign_36 : decode zb_XPacker_putSign 36 = .ok (.isub, 1) := by decide +kernel
theorem zd_XPacker_putSign_37 : decode zb_XPacker_putSign 37 = .ok (.bipush 9, 2) := by decide +kernel
theorem zd_XPacker_putSign_39 : decode zb_XPacker_putSign 39 = .ok (.invokevirtual 148, 3) := by decide +kernel
theorem zd_XPacker_putSign_42 : decode zb_XPacker_putSign 42 = .ok (.goto 39, 3) := by decide +kernel
theorem zd_XPacker_putSign_45 : decode zb_XPacker_putSign 45 = .ok (.iload_n 1, 1) := by decide +kernel
theorem zd_XPacker_putSign_46 : decode zb_XPacker_putSign 46 = .ok (.sipush 280, 3) := by decide +kernel
theorem zd_XPacker_putSign_49 : decode zb_XPacker_putSign 49 = .ok (.if_icmp .ge 17, 3) := by decide +kernel
theorem zd_XPacker_putSign_52 : decode zb_XPacker_putSign 52 = .ok (.aload_n 0, 1) := by decide +kernel
theorem zd_XPacker_putSign_53 : decode zb_XPacker_putSign 53 = .ok (.iload_n 1, 1) := by decide +kernel
theorem zd_XPacker_putSign_54 : decode zb_XPacker_putSign 54 = .ok (.sipush 256, 3) := by decide +kernel
theorem zd_XPacker_putSign_57 : decode zb_XPacker_putSign 57 = .ok (.isub, 1) := by decide +kernel
theorem zd_XPacker_putSign_58 : decode zb_XPacker_putSign 58 = .ok (.bipush 7, 2) := by decide +kernel
theorem zd_XPacker_putSign_60 : decode zb_XPacker_putSign 60 = .ok (.invokevirtual 148, 3) := by decide +kernel
theorem zd_XPacker_putSign_63 : decode zb_XPacker_putSign 63 = .ok (.goto 18, 3) := by decide +kernel
theorem zd_XPacker_putSign_66 : decode zb_XPacker_putSign 66 = .ok (.aload_n 0, 1) := by decide +kernel
theorem zd_XPacker_putSign_67 : decode zb_XPacker_putSign 67 = .ok (.sipush 192, 3) := by decide +kernel
theorem zd_XPacker_putSign_70 : decode zb_XPacker_putSign 70 = .ok (.iload_n 1, 1) := by decide +kernel
theorem zd_XPacker_putSign_71 : decode zb_XPacker_putSign 71 = .ok (.iadd, 1) := by decide +kernel
theorem zd_XPacker_putSign_72 : decode zb_XPacker_putSign 72 = .ok (.sipush 280, 3) := by decide +kernel
theorem zd_XPacker_putSign_75 : decode zb_XPacker_putSign 75 = .ok (.isub, 1) := by decide +kernel
theorem zd_XPacker_putSign_76 : decode zb_XPacker_putSign 76 = .ok (.bipush 8, 2) := by decide +kernel
theorem zd_XPacker_putSign_78 : decode zb_XPacker_putSign 78 = .ok (.invokevirtual 148, 3) := by decide +kernel
theorem zd_XPacker_putSign_81 : decode zb_XPacker_putSign 81 = .ok (.return_, 1) := by decide +kernel
theorem zw_1040 : (Jvm.Cond.methodLink "OrreryBox$Packer" (148 : Nat) ({ cls := "OrreryBox$Packer", name := "putHighFirst", desc := "(II)V" } : Jvm.MethodName)) ∈ gw := gw_t 1040 (by decide +kernel) rfl
theorem zw_1042 : (Jvm.Cond.instanceMethod ({ cls := "OrreryBox$Packer", name := "putHighFirst", desc := "(II)V" } : Jvm.MethodName)) ∈ gw := gw_t 1042 (by decide +kernel) rfl
theorem zv_42 : (Jvm.Cond.selects "OrreryBox$Packer" (⟨"OrreryBox$Packer", "putHighFirst", "(II)V"⟩ : MethodName) ⟨"OrreryBox$Packer", "putHighFirst", "(II)V"⟩) ∈ gw := gw_s 42 (by decide +kernel) rfl
theorem zs_XPacker_148 : zwV "OrreryBox$Packer" 148 "OrreryBox$Packer" zy_XPacker_putHighFirst zb_XPacker_putHighFirst 4 none := ⟨zw_1040, zw_1042, zv_42, zw_3, zc_XPacker_putHighFirst⟩
def F_XPacker_putSign (sh : zSh) (mm : zMem) (o : Nat) (x0_ : Int32) : Option zMem := (if 144 ≤ x0_ then (if 256 ≤ x0_ then (if 280 ≤ x0_ then zoS (sh o) 4 (fun le5 => Option.bind (F_XPacker_putHighFirst sh mm o ((192 + x0_) - 280) 8) (fun p6 => some p6)) else zoS (sh o) 4 (fun le8 => Option.bind (F_XPacker_putHighFirst sh mm o (x0_ - 256) 7) (fun p9 => some p9))) else zoS (sh o) 4 (fun le11 => Option.bind (F_XPacker_putHighFirst sh mm o ((400 + x0_) - 144) 9) (fun p12 => some p12))) else zoS (sh o) 4 (fun le14 => Option.bind (F_XPacker_putHighFirst sh mm o (48 + x0_) 8) (fun p15 => some p15)))
set_option maxHeartbeats 4000000 in
set_option maxRecDepth 100000 in
theorem k_XPacker_putSign (l : Launch) (D : va_G) (tA : Nat → ClassId) (b : Nat) (sh : zSh) (n : Nat) {mm : zMem} {o : Nat} {x0_ : Int32} {r : zMem} (h : F_XPacker_putSign sh mm o x0_ = some r) : zM l D tA b zy_XPacker_putSign zb_XPacker_putSign 2 none 2 44 0 0 [.ref (b + o), .int x0_] (zW tA b sh mm) n (zE none (zW tA b sh r) n) := by
  unfold F_XPacker_putSign at h
  refine zM_of (own := "OrreryBox$Packer") (plainFor_of_name (by decide)) rfl (Nat.le_of_ble_eq_true rfl) (fun p e s m below meth c F hr hin hH => ?_)
  refine zr_iload_n F zd_XPacker_putSign_0 rfl ?_
  refine zr_sipushv (v := 144) F zd_XPacker_putSign_1 (by decide) ?_
  refine zr_icmp_ge F 20 zd_XPacker_putSign_4 (by decide) (fun hb1 => ?_) (fun hb1 => ?_)
  ·
    replace h := (if_pos hb1).symm.trans h
    refine zr_iload_n F zd_XPacker_putSign_20 rfl ?_
    refine zr_sipushv (v := 256) F zd_XPacker_putSign_21 (by decide) ?_
    refine zr_icmp_ge F 45 zd_XPacker_putSign_24 (by decide) (fun hb2 => ?_) (fun hb2 => ?_)
    ·
      replace h := (if_pos hb2).symm.trans h
      refine zr_iload_n F zd_XPacker_putSign_45 rfl ?_
      refine zr_pcn 46 rfl ?_
      refine zr_sipushv (v := 280) F zd_XPacker_putSign_46 (by decide) ?_
      refine zr_icmp_ge F 66 zd_XPacker_putSign_49 (by decide) (fun hb3 => ?_) (fun hb3 => ?_)
      ·
        replace h := (if_pos hb3).symm.trans h
        refine zr_aload_n F zd_XPacker_putSign_66 rfl ?_
        refine zr_sipushv (v := 192) F zd_XPacker_putSign_67 (by decide) ?_
        refine zr_iload_n F zd_XPacker_putSign_70 rfl ?_
        refine zr_iadd F zd_XPacker_putSign_71 ?_
        refine zr_sipushv (v := 280) F zd_XPacker_putSign_72 (by decide) ?_
        refine zr_isub F zd_XPacker_putSign_75 ?_
        refine zr_pcn 76 rfl ?_
        refine zr_bipushv (v := 8) F zd_XPacker_putSign_76 (by decide) ?_
        obtain ⟨le5, hs4, h⟩ := zoS_s h
        obtain ⟨p6, ep6, h⟩ := zoB_s h
        refine zr_callV0 F (k_XPacker_putHighFirst l D tA b sh _ ep6) zd_XPacker_putSign_78 (zW_o hs4 (by decide)) rfl zs_XPacker_148 rfl zq_XPacker_putHighFirst rfl rfl ⟨(Nat.le_of_ble_eq_true rfl), (Nat.le_of_ble_eq_true rfl)⟩ (Nat.le_of_ble_eq_true rfl) ⟨(Nat.le_of_ble_eq_true rfl), (Nat.le_of_ble_eq_true rfl)⟩ ?_
        obtain rfl := Option.some.inj h
        exact zr_vret F hr zd_XPacker_putSign_81 (Nat.le_of_ble_eq_true rfl) (Nat.le_of_ble_eq_true rfl) ⟨rfl, rfl, rfl⟩
      ·
        replace h := (if_neg hb3).symm.trans h
        refine zr_aload_n F zd_XPacker_putSign_52 rfl ?_
        refine zr_iload_n F zd_XPacker_putSign_53 rfl ?_
        refine zr_sipushv (v := 256) F zd_XPacker_putSign_54 (by decide) ?_
        refine zr_isub F zd_XPacker_putSign_57 ?_
        refine zr_bipushv (v := 7) F zd_XPacker_putSign_58 (by decide) ?_
        refine zr_pcn 60 rfl ?_
        obtain ⟨le8, hs7, h⟩ := zoS_s h
        obtain ⟨p9, ep9, h⟩ := zoB_s h
        refine zr_callV0 F (k_XPacker_putHighFirst l D tA b sh _ ep9) zd_XPacker_putSign_60 (zW_o hs7 (by decide)) rfl zs_XPacker_148 rfl zq_XPacker_putHighFirst rfl rfl ⟨(Nat.le_of_ble_eq_true rfl), (Nat.le_of_ble_eq_true rfl)⟩ (Nat.le_of_ble_eq_true rfl) ⟨(Nat.le_of_ble_eq_true rfl), (Nat.le_of_ble_eq_true rfl)⟩ ?_
        refine zr_goto F 81 zd_XPacker_putSign_63 (by decide) ?_
        obtain rfl := Option.some.inj h
        exact zr_vret F hr zd_XPacker_putSign_81 (Nat.le_of_ble_eq_true rfl) (Nat.le_of_ble_eq_true rfl) ⟨rfl, rfl, rfl⟩
    ·
      replace h := (if_neg hb2).symm.trans h
      refine zr_aload_n F zd_XPacker_putSign_27 rfl ?_
      refine zr_sipushv (v := 400) F zd_XPacker_putSign_28 (by decide) ?_
      refine zr_iload_n F zd_XPacker_putSign_31 rfl ?_
      refine zr_iadd F zd_XPacker_putSign_32 ?_
      refine zr_sipushv (v := 144) F zd_XPacker_putSign_33 (by decide) ?_
      refine zr_pcn 36 rfl ?_
      refine zr_isub F zd_XPacker_putSign_36 ?_
      refine zr_bipushv (v := 9) F zd_XPacker_putSign_37 (by decide) ?_
      obtain ⟨le11, hs10, h⟩ := zoS_s h
      obtain ⟨p12, ep12, h⟩ := zoB_s h
      refine zr_callV0 F (k_XPacker_putHighFirst l D tA b sh _ ep12) zd_XPacker_putSign_39 (zW_o hs10 (by decide)) rfl zs_XPacker_148 rfl zq_XPacker_putHighFirst rfl rfl ⟨(Nat.le_of_ble_eq_true rfl), (Nat.le_of_ble_eq_true rfl)⟩ (Nat.le_of_ble_eq_true rfl) ⟨(Nat.le_of_ble_eq_true rfl), (Nat.le_of_ble_eq_true rfl)⟩ ?_
      refine zr_goto F 81 zd_XPacker_putSign_42 (by decide) ?_
      obtain rfl := Option.some.inj h
      exact zr_vret F hr zd_XPacker_putSign_81 (Nat.le_of_ble_eq_true rfl) (Nat.le_of_ble_eq_true rfl) ⟨rfl, rfl, rfl⟩
  ·
    replace h := (if_neg hb1).symm.trans h
    refine zr_aload_n F zd_XPacker_putSign_7 rfl ?_
    refine zr_bipushv (v := 48) F zd_XPacker_putSign_8 (by decide) ?_
    refine zr_iload_n F zd_XPacker_putSign_10 rfl ?_
    refine zr_pcn 11 rfl ?_
    refine zr_iadd F zd_XPacker_putSign_11 ?_
    refine zr_bipushv (v := 8) F zd_XPacker_putSign_12 (by decide) ?_
    obtain ⟨le14, hs13, h⟩ := zoS_s h
    obtain ⟨p15, ep15, h⟩ := zoB_s h
    refine zr_callV0 F (k_XPacker_putHighFirst l D tA b sh _ ep15) zd_XPacker_putSign_14 (zW_o hs13 (by decide)) rfl zs_XPacker_148 rfl zq_XPacker_putHighFirst rfl rfl ⟨(Nat.le_of_ble_eq_true rfl), (Nat.le_of_ble_eq_true rfl)⟩ (Nat.le_of_ble_eq_true rfl) ⟨(Nat.le_of_ble_eq_true rfl), (Nat.le_of_ble_eq_true rfl)⟩ ?_
    refine zr_goto F 81 zd_XPacker_putSign_17 (by decide) ?_
    obtain rfl := Option.some.inj h
    exact zr_vret F hr zd_XPacker_putSign_81 (Nat.le_of_ble_eq_true rfl) (Nat.le_of_ble_eq_true rfl) ⟨rfl, rfl, rfl⟩
abbrev zb_XPacker_putLength : ByteArray := prog_5_method_21_code
def zy_XPacker_putLength : MethodName := ⟨"OrreryBox$Packer", "putLength", "(I)V"⟩
theorem zc_XPacker_putLength : Cond.code zy_XPacker_putLength zb_XPacker_putLength 4 none ∈ gw := gw_t 1035 (by decide +kernel) rfl
theorem zq_XPacker_putLength : zy_XPacker_putLength.cls ≠ "java/lang/invoke/MethodHandle" ∧ zy_XPacker_putLength.cls ≠ "java/lang/invoke/VarHandle" ∧ (parseMethodDescriptor zy_XPacker_putLength.desc).map (fun d => d.parameters.length) = some 1 := by decide +kernel
theorem zd_XPacker_putLength_0 : decode zb_XPacker_putLength 0 = .ok (.iload_n 1, 1) := by decide +kernel
theorem zd_XPacker_putLength_1 : decode zb_XPacker_putLength 1 = .ok (.bipush 11, 2) := by decide +kernel
theorem zd_XPacker_putLength_3 : decode zb_XPacker_putLength 3 = .ok (.if_icmp .ge 15, 3) := by decide +kernel
theorem zd_XPacker_putLength_6 : decode zb_XPacker_putLength 6 = .ok (.aload_n 0, 1) := by decide +kernel
theorem zd_XPacker_putLength_7 : decode zb_XPacker_putLength 7 = .ok (.sipush 257, 3) := by decide +kernel
theorem zd_XPacker_putLength_10 : decode zb_XPacker_putLength 10 = .ok (.iload_n 1, 1) := by decide +kernel
theorem zd_XPacker_putLength_11 : decode zb_XPacker_putLength 11 = .ok (.iadd, 1) := by decide +kernel
theorem zd_XPacker_putLength_12 : decode zb_XPacker_putLength 12 = .ok (.iconst 3, 1) := by decide +kernel
theorem zd_XPacker_putLength_13 : decode zb_XPacker_putLength 13 = .ok (.isub, 1) := by decide +kernel
theorem zd_XPacker_putLength_14 : decode zb_XPacker_putLength 14 = .ok (.invokevirtual 136, 3) := by decide +kernel
theorem zd_XPacker_putLength_17 : decode zb_XPacker_putLength 17 = .ok (.return_, 1) := by decide +kernel
theorem zd_XPacker_putLength_18 : decode zb_XPacker_putLength 18 = .ok (.iload_n 1, 1) := by decide +kernel
theorem zd_XPacker_putLength_19 : decode zb_XPacker_putLength 19 = .ok (.sipush 258, 3) := by decide +kernel
theorem zd_XPacker_putLength_22 : decode zb_XPacker_putLength 22 = .ok (.if_icmp .ne 11, 3) := by decide +kernel
theorem zd_XPacker_putLength_25 : decode zb_XPacker_putLength 25 = .ok (.aload_n 0, 1) := by decide +kernel
theorem zd_XPacker_putLength_26 : decode zb_XPacker_putLength 26 = .ok (.sipush 285, 3) := by decide +kernel
theorem zd_XPacker_putLength_29 : decode zb_XPacker_putLength 29 = .ok (.invokevirtual 136, 3) := by decide +kernel
theorem zd_XPacker_putLength_32 : decode zb_XPacker_putLength 32 = .ok (.return_, 1) := by decide +kernel
theorem zd_XPacker_putLength_33 : decode zb_XPacker_putLength 33 = .ok (.iconst 1, 1) := by decide +kernel
theorem zd_XPacker_putLength_34 : decode zb_XPacker_putLength 34 = .ok (.istore_n 2, 1) := by decide +kernel
theorem zd_XPacker_putLength_35 : decode zb_XPacker_putLength 35 = .ok (.bipush 11, 2) := by decide +kernel
theorem zd_XPacker_putLength_37 : decode zb_XPacker_putLength 37 = .ok (.istore_n 3, 1) := by decide +kernel
theorem zd_XPacker_putLength_38 : decode zb_XPacker_putLength 38 = .ok (.iload_n 2, 1) := by decide +kernel
theorem zd_XPacker_putLength_39 : decode zb_XPacker_putLength 39 = .ok (.iconst 5, 1) := by decide +kernel
theorem zd_XPacker_putLength_40 : decode zb_XPacker_putLength 40 = .ok (.if_icmp .ge 24, 3) := by decide +kernel
theorem zd_XPacker_putLength_43 : decode zb_XPacker_putLength 43 = .ok (.iload_n 1, 1) := by decide +kernel
theorem zd_XPacker_putLength_44 : decode zb_XPacker_putLength 44 = .ok (.iload_n 3, 1) := by decide +kernel
theorem zd_XPacker_putLength_45 : decode zb_XPacker_putLength 45 = .ok (.iconst 4, 1) := by decide +kernel
theorem zd_XPacker_putLength_46 : decode zb_XPacker_putLength 46 = .ok (.iload_n 2, 1) := by decide +kernel
theorem zd_XPacker_putLength_47 : decode zb_XPacker_putLength 47 = .ok (.ishl, 1) := by decide +kernel
theorem zd_XPacker_putLength_48 : decode zb_XPacker_putLength 48 = .ok (.iadd, 1) := by decide +kernel
theorem zd_XPacker_putLength_49 : decode zb_XPacker_putLength 49 = .ok (.if_icmp .lt 15, 3) := by decide +kernel
theorem zd_XPacker_putLength_52 : decode zb_XPacker_putLength 52 = .ok (.iload_n 3, 1) := by decide +kernel
theorem zd_XPacker_putLength_53 : decode zb_XPacker_putLength 53 = .ok (.iconst 4, 1) := by decide +kernel
theorem zd_XPacker_putLength_54 : decode zb_XPacker_putLength 54 = .ok (.iload_n 2, 1) := by decide +kernel
theorem zd_XPacker_putLength_55 : decode zb_XPacker_putLength 55 = .ok (.ishl, 1) := by decide +kernel
theorem zd_XPacker_putLength_56 : decode zb_XPacker_putLength 56 = .ok (.iadd, 1) := by decide +kernel
theorem zd_XPacker_putLength_57 : decode zb_XPacker_putLength 57 = .ok (.istore_n 3, 1) := by decide +kernel
theorem zd_XPacker_putLength_58 : decode zb_XPacker_putLength 58 = .ok (.iinc 2 1, 3) := by decide +kernel
theorem zd_XPacker_putLength_61 : decode zb_XPacker_putLength 61 = .ok (.goto (-23), 3) := by decide +kernel
theorem zd_XPacker_putLength_64 : decode zb_XPacker_putLength 64 = .ok (.aload_n 0, 1) := by decide +kernel
theorem zd_XPacker_putLength_65 : decode zb_XPacker_putLength 65 = .ok (.sipush 261, 3) := by decide +kernel
theorem zd_XPacker_putLength_68 : decode zb_XPacker_putLength 68 = .ok (.iconst 4, 1) := by decide +kernel
theorem zd_XPacker_putLength_69 : decode zb_XPacker_putLength 69 = .ok (.iload_n 2, 1) := by decide +kernel
theorem zd_XPacker_putLength_70 : decode zb_XPacker_putLength 70 = .ok (.imul, 1) := by decide +kernel
theorem zd_XPacker_putLength_71 : decode zb_XPacker_putLength 71 = .ok (.iadd, 1) := by decide +kernel
theorem zd_XPacker_putLength_72 : decode zb_XPacker_putLength 72 = .ok (.iload_n 1, 1) := by decide +kernel
theorem zd_XPacker_putLength_73 : decode zb_XPacker_putLength 73 = .ok (.iload_n 3, 1) := by decide +kernel
theorem zd_XPacker_putLength_74 : decode zb_XPacker_putLength 74 = .ok (.isub, 1) := by decide +kernel
theorem zd_XPacker_putLength_75 : decode zb_XPacker_putLength 75 = .ok (.iload_n 2, 1) := by decide +kernel
theorem zd_XPacker_putLength_76 : decode zb_XPacker_putLength 76 = .ok (.ishr, 1) := by decide +kernel
theorem zd_XPacker_putLength_77 : decode zb_XPacker_putLength 77 = .ok (.iadd, 1) := by decide +kernel
theorem zd_XPacker_putLength_78 : decode zb_XPacker_putLength 78 = .ok (.invokevirtual 136, 3) := by decide +kernel
theorem zd_XPacker_putLength_81 : decode zb_XPacker_putLength 81 = .ok (.aload_n 0, 1) := by decide +kernel
theorem zd_XPacker_putLength_82 : decode zb_XPacker_putLength 82 = .ok (.iload_n 1, 1) := by decide +kernel
theorem zd_XPacker_putLength_83 : decode zb_XPacker_putLength 83 = .ok (.iload_n 3, 1) := by decide +kernel
theorem zd_XPacker_putLength_84 : decode zb_XPacker_putLength 84 = .ok (.isub, 1) := by decide +kernel
theorem zd_XPacker_putLength_85 : decode zb_XPacker_putLength 85 = .ok (.iload_n 2, 1) := by decide +kernel
theorem zd_XPacker_putLength_86 : decode zb_XPacker_putLength 86 = .ok (.invokevirtual 118, 3) := by decide +kernel
theorem zd_XPacker_putLength_89 : decode zb_XPacker_putLength 89 = .ok (.return_, 1) := by decide +kernel
def L_XPacker_putLength_38 (sh : zSh) (fuel : Nat) (v0 : Nat) (v1 : Int32) (v2 : Int32) (v3 : Int32) (mm : zMem) : Option (Nat × Int32 × Int32 × Int32 × zMem) := match fuel with
  | 0 => none
  | fu + 1 => (if 5 ≤ v2 then some (v0, v1, v2, v3, mm) else (if v1 < (v3 + (4 <<< (v2 &&& 31))) then some (v0, v1, v2, v3, mm) else zoL (v3 + (4 <<< (v2 &&& 31))) (fun x5 => L_XPacker_putLength_38 sh fu v0 v1 (v2 + 1) x5 mm)))
set_option maxHeartbeats 4000000 in
set_option maxRecDepth 100000 in
theorem lp_XPacker_putLength_38 {p : Program} {l : Launch} {e : Env} {s : State} {m : MethodId} {args : Array Value} {below : List Frame} {meth : Method} {c : Code} {D : va_G} {tA : Nat → ClassId} {b n : Nat} {post : Option Value → zV → Nat → Prop} {sh : zSh} (F : zF p s m args meth c zb_XPacker_putLength 4 "OrreryBox$Packer" D tA b) : ∀ (fuel : Nat) (v0 : Nat) (v1 : Int32) (v2 : Int32) (v3 : Int32) (mm : zMem) (r : Nat × Int32 × Int32 × Int32 × zMem), L_XPacker_putLength_38 sh fuel v0 v1 v2 v3 mm = some r → (Z p l e { frames := 3, cells := 0, slots := 0, locals := 65 } s m args below meth c D b 4 (MQ below (zQ D b post) args s 0 0 (fun q => b ≤ q)) (zW tA b sh r.2.2.2.2) n 0 0 64 [(0, .ref (b + (r.1))), (1, .int (r.2.1)), (2, .int (r.2.2.1)), (3, .int (r.2.2.2.1))] []) → Z p l e { frames := 3, cells := 0, slots := 0, locals := 65 } s m args below meth c D b 4 (MQ below (zQ D b post) args s 0 0 (fun q => b ≤ q)) (zW tA b sh mm) n 0 0 38 [(0, .ref (b + v0)), (1, .int v1), (2, .int v2), (3, .int v3)] [] := by
  intro fuel
  induction fuel with
  | zero =>
    intro v0 v1 v2 v3 mm r h
    cases h
  | succ fu ih =>
    intro v0 v1 v2 v3 mm r h hx0
    rw [L_XPacker_putLength_38] at h
    refine zr_iload_n F zd_XPacker_putLength_38 rfl ?_
    refine zr_iconstv (v := 5) F zd_XPacker_putLength_39 (by decide) ?_
    refine zr_icmp_ge F 64 zd_XPacker_putLength_40 (by decide) (fun hb3 => ?_) (fun hb3 => ?_)
    ·
      replace h := (if_pos hb3).symm.trans h
      obtain rfl := Option.some.inj h
      refine zr_loc (L' := [(0, .ref (b + v0)), (1, .int v1), (2, .int v2), (3, .int v3)]) ⟨rfl, rfl, rfl, rfl, trivial⟩ ?_
      exact hx0 
    ·
      replace h := (if_neg hb3).symm.trans h
      refine zr_iload_n F zd_XPacker_putLength_43 rfl ?_
      refine zr_iload_n F zd_XPacker_putLength_44 rfl ?_
      refine zr_pcn 45 rfl ?_
      refine zr_iconstv (v := 4) F zd_XPacker_putLength_45 (by decide) ?_
      refine zr_iload_n F zd_XPacker_putLength_46 rfl ?_
      refine zr_ishl F zd_XPacker_putLength_47 ?_
      refine zr_iadd F zd_XPacker_putLength_48 ?_
      refine zr_icmp_lt F 64 zd_XPacker_putLength_49 (by decide) (fun hb4 => ?_) (fun hb4 => ?_)
      ·
        replace h := (if_pos hb4).symm.trans h
        obtain rfl := Option.some.inj h
        refine zr_loc (L' := [(0, .ref (b + v0)), (1, .int v1), (2, .int v2), (3, .int v3)]) ⟨rfl, rfl, rfl, rfl, trivial⟩ ?_
        exact hx0 
      ·
        replace h := (if_neg hb4).symm.trans h
        refine zr_iload_n F zd_XPacker_putLength_52 rfl ?_
        refine zr_iconstv (v := 4) F zd_XPacker_putLength_53 (by decide) ?_
        refine zr_iload_n F zd_XPacker_putLength_54 rfl ?_
        refine zr_pcn 55 rfl ?_
        refine zr_ishl F zd_XPacker_putLength_55 ?_
        refine zr_iadd F zd_XPacker_putLength_56 ?_
        obtain ⟨x5, ex5, h⟩ := zoL_s h
        rw [← ex5]
        refine zr_istore_n F zd_XPacker_putLength_57 (by decide) ?_
        refine zr_iinc (v := (v2 + 1)) F zd_XPacker_putLength_58 rfl rfl (by decide) ?_
        refine zr_goto F 38 zd_XPacker_putLength_61 (by decide) ?_
        refine zr_loc (L' := [(0, .ref (b + v0)), (1, .int v1), (2, .int (v2 + 1)), (3, .int x5)]) ⟨rfl, rfl, rfl, rfl, trivial⟩ ?_
        exact ih _ _ _ _ _ _ h hx0
theorem zw_1036 : (Jvm.Cond.methodLink "OrreryBox$Packer" (136 : Nat) ({ cls := "OrreryBox$Packer", name := "putSign", desc := "(I)V" } : Jvm.MethodName)) ∈ gw := gw_t 1036 (by decide +kernel) rfl
theorem zw_1038 : (Jvm.Cond.instanceMethod ({ cls := "OrreryBox$Packer", name := "putSign", desc := "(I)V" } : Jvm.MethodName)) ∈ gw := gw_t 1038 (by decide +kernel) rfl
theorem zv_41 : (Jvm.Cond.selects "OrreryBox$Packer" (⟨"OrreryBox$Packer", "putSign", "(I)V"⟩ : MethodName) ⟨"OrreryBox$Packer", "putSign", "(I)V"⟩) ∈ gw := gw_s 41 (by decide +kernel) rfl
theorem zs_XPacker_136 : zwV "OrreryBox$Packer" 136 "OrreryBox$Packer" zy_XPacker_putSign zb_XPacker_putSign 2 none := ⟨zw_1036, zw_1038, zv_41, zw_3, zc_XPacker_putSign⟩
theorem zw_1012 : (Jvm.Cond.methodLink "OrreryBox$Packer" (118 : Nat) ({ cls := "OrreryBox$Packer", name := "putLowFirst", desc := "(II)V" } : Jvm.MethodName)) ∈ gw := gw_t 1012 (by decide +kernel) rfl
theorem zw_1014 : (Jvm.Cond.instanceMethod ({ cls := "OrreryBox$Packer", name := "putLowFirst", desc := "(II)V" } : Jvm.MethodName)) ∈ gw := gw_t 1014 (by decide +kernel) rfl
theorem zv_35 : (Jvm.Cond.selects "OrreryBox$Packer" (⟨"OrreryBox$Packer", "putLowFirst", "(II)V"⟩ : MethodName) ⟨"OrreryBox$Packer", "putLowFirst", "(II)V"⟩) ∈ gw := gw_s 35 (by decide +kernel) rfl
theorem zs_XPacker_118 : zwV "OrreryBox$Packer" 118 "OrreryBox$Packer" zy_XPacker_putLowFirst zb_XPacker_putLowFirst 4 none := ⟨zw_1012, zw_1014, zv_35, zw_3, zc_XPacker_putLowFirst⟩
def F_XPacker_putLength (sh : zSh) (mm : zMem) (o : Nat) (x0_ : Int32) : Option zMem := (if 11 ≤ x0_ then (if x0_ = 258 then zoS (sh o) 4 (fun le15 => Option.bind (F_XPacker_putSign sh mm o 285) (fun p16 => some p16)) else Option.bind (L_XPacker_putLength_38 sh zfuel o x0_ 1 11 mm) (fun q6 => zoS (sh (q6.1)) 4 (fun le8 => zoL ((261 + (4 * q6.2.2.1)) + ((q6.2.1 - q6.2.2.2.1) >>> (q6.2.2.1 &&& 31))) (fun x9 => Option.bind (F_XPacker_putSign sh (q6.2.2.2.2) (q6.1) x9) (fun p10 => zoS (sh (q6.1)) 4 (fun le12 => Option.bind (F_XPacker_putLowFirst sh p10 (q6.1) (q6.2.1 - q6.2.2.2.1) (q6.2.2.1)) (fun p13 => some p13))))))) else zoS (sh o) 4 (fun le18 => Option.bind (F_XPacker_putSign sh mm o ((257 + x0_) - 3)) (fun p19 => some p19)))
set_option maxHeartbeats 4000000 in
set_option maxRecDepth 100000 in
theorem k_XPacker_putLength (l : Launch) (D : va_G) (tA : Nat → ClassId) (b : Nat) (sh : zSh) (n : Nat) {mm : zMem} {o : Nat} {x0_ : Int32} {r : zMem} (h : F_XPacker_putLength sh mm o x0_ = some r) : zM l D tA b zy_XPacker_putLength zb_XPacker_putLength 4 none 3 65 0 0 [.ref (b + o), .int x0_] (zW tA b sh mm) n (zE none (zW tA b sh r) n) := by
  unfold F_XPacker_putLength at h
  refine zM_of (own := "OrreryBox$Packer") (plainFor_of_name (by decide)) rfl (Nat.le_of_ble_eq_true rfl) (fun p e s m below meth c F hr hin hH => ?_)
  refine zr_iload_n F zd_XPacker_putLength_0 rfl ?_
  refine zr_bipushv (v := 11) F zd_XPacker_putLength_1 (by decide) ?_
  refine zr_icmp_ge F 18 zd_XPacker_putLength_3 (by decide) (fun hb1 => ?_) (fun hb1 => ?_)
  ·
    replace h := (if_pos hb1).symm.trans h
    refine zr_iload_n F zd_XPacker_putLength_18 rfl ?_
    refine zr_sipushv (v := 258) F zd_XPacker_putLength_19 (by decide) ?_
    refine zr_icmp_ne F 33 zd_XPacker_putLength_22 (by decide) (fun hb2 => ?_) (fun hb2 => ?_)
    ·
      replace h := (if_neg hb2).symm.trans h
      refine zr_iconstv (v := 1) F zd_XPacker_putLength_33 (by decide) ?_
      refine zr_pcn 34 rfl ?_
      refine zr_istore_n F zd_XPacker_putLength_34 (by decide) ?_
      refine zr_bipushv (v := 11) F zd_XPacker_putLength_35 (by decide) ?_
      refine zr_istore_n F zd_XPacker_putLength_37 (by decide) ?_
      obtain ⟨q6, eq6, h⟩ := zoB_s h
      refine zr_loc (L' := [(0, .ref (b + o)), (1, .int x0_), (2, .int 1), (3, .int 11)]) ⟨rfl, rfl, rfl, rfl, trivial⟩ ?_
      refine lp_XPacker_putLength_38 F _ _ _ _ _ _ _ eq6 ?_
      ·
        refine zr_aload_n F zd_XPacker_putLength_64 rfl ?_
        refine zr_sipushv (v := 261) F zd_XPacker_putLength_65 (by decide) ?_
        refine zr_iconstv (v := 4) F zd_XPacker_putLength_68 (by decide) ?_
        refine zr_pcn 69 rfl ?_
        refine zr_iload_n F zd_XPacker_putLength_69 rfl ?_
        refine zr_imul F zd_XPacker_putLength_70 ?_
        refine zr_iadd F zd_XPacker_putLength_71 ?_
        refine zr_iload_n F zd_XPacker_putLength_72 rfl ?_
        refine zr_iload_n F zd_XPacker_putLength_73 rfl ?_
        refine zr_isub F zd_XPacker_putLength_74 ?_
        refine zr_iload_n F zd_XPacker_putLength_75 rfl ?_
        refine zr_ishr F zd_XPacker_putLength_76 ?_
        refine zr_pcn 77 rfl ?_
        refine zr_iadd F zd_XPacker_putLength_77 ?_
        obtain ⟨le8, hs7, h⟩ := zoS_s h
        obtain ⟨x9, ex9, h⟩ := zoL_s h
        rw [← ex9]
        obtain ⟨p10, ep10, h⟩ := zoB_s h
        refine zr_callV0 F (k_XPacker_putSign l D tA b sh _ ep10) zd_XPacker_putLength_78 (zW_o hs7 (by decide)) rfl zs_XPacker_136 rfl zq_XPacker_putSign rfl rfl ⟨(Nat.le_of_ble_eq_true rfl), (Nat.le_of_ble_eq_true rfl)⟩ (Nat.le_of_ble_eq_true rfl) ⟨(Nat.le_of_ble_eq_true rfl), (Nat.le_of_ble_eq_true rfl)⟩ ?_
        refine zr_aload_n F zd_XPacker_putLength_81 rfl ?_
        refine zr_iload_n F zd_XPacker_putLength_82 rfl ?_
        refine zr_iload_n F zd_XPacker_putLength_83 rfl ?_
        refine zr_isub F zd_XPacker_putLength_84 ?_
        refine zr_iload_n F zd_XPacker_putLength_85 rfl ?_
        obtain ⟨le12, hs11, h⟩ := zoS_s h
        obtain ⟨p13, ep13, h⟩ := zoB_s h
        refine zr_callV0 F (k_XPacker_putLowFirst l D tA b sh _ ep13) zd_XPacker_putLength_86 (zW_o hs11 (by decide)) rfl zs_XPacker_118 rfl zq_XPacker_putLowFirst rfl rfl ⟨(Nat.le_of_ble_eq_true rfl), (Nat.le_of_ble_eq_true rfl)⟩ (Nat.le_of_ble_eq_true rfl) ⟨(Nat.le_of_ble_eq_true rfl), (Nat.le_of_ble_eq_true rfl)⟩ ?_
        refine zr_pcn 89 rfl ?_
        obtain rfl := Option.some.inj h
        exact zr_vret F hr zd_XPacker_putLength_89 (Nat.le_of_ble_eq_true rfl) (Nat.le_of_ble_eq_true rfl) ⟨rfl, rfl, rfl⟩
    ·
      replace h := (if_pos hb2).symm.trans h
      refine zr_aload_n F zd_XPacker_putLength_25 rfl ?_
      refine zr_sipushv (v := 285) F zd_XPacker_putLength_26 (by decide) ?_
      obtain ⟨le15, hs14, h⟩ := zoS_s h
      obtain ⟨p16, ep16, h⟩ := zoB_s h
      refine zr_callV0 F (k_XPacker_putSign l D tA b sh _ ep16) zd_XPacker_putLength_29 (zW_o hs14 (by decide)) rfl zs_XPacker_136 rfl zq_XPacker_putSign rfl rfl ⟨(Nat.le_of_ble_eq_true rfl), (Nat.le_of_ble_eq_true rfl)⟩ (Nat.le_of_ble_eq_true rfl) ⟨(Nat.le_of_ble_eq_true rfl), (Nat.le_of_ble_eq_true rfl)⟩ ?_
      obtain rfl := Option.some.inj h
      exact zr_vret F hr zd_XPacker_putLength_32 (Nat.le_of_ble_eq_true rfl) (Nat.le_of_ble_eq_true rfl) ⟨rfl, rfl, rfl⟩
  ·
    replace h := (if_neg hb1).symm.trans h
    refine zr_aload_n F zd_XPacker_putLength_6 rfl ?_
    refine zr_sipushv (v := 257) F zd_XPacker_putLength_7 (by decide) ?_
    refine zr_iload_n F zd_XPacker_putLength_10 rfl ?_
    refine zr_pcn 11 rfl ?_
    refine zr_iadd F zd_XPacker_putLength_11 ?_
    refine zr_iconstv (v := 3) F zd_XPacker_putLength_12 (by decide) ?_
    refine zr_isub F zd_XPacker_putLength_13 ?_
    obtain ⟨le18, hs17, h⟩ := zoS_s h
    obtain ⟨p19, ep19, h⟩ := zoB_s h
    refine zr_callV0 F (k_XPacker_putSign l D tA b sh _ ep19) zd_XPacker_putLength_14 (zW_o hs17 (by decide)) rfl zs_XPacker_136 rfl zq_XPacker_putSign rfl rfl ⟨(Nat.le_of_ble_eq_true rfl), (Nat.le_of_ble_eq_true rfl)⟩ (Nat.le_of_ble_eq_true rfl) ⟨(Nat.le_of_ble_eq_true rfl), (Nat.le_of_ble_eq_true rfl)⟩ ?_
    obtain rfl := Option.some.inj h
    exact zr_vret F hr zd_XPacker_putLength_17 (Nat.le_of_ble_eq_true rfl) (Nat.le_of_ble_eq_true rfl) ⟨rfl, rfl, rfl⟩
