abbrev zb_XTexture_halve : ByteArray := prog_11_method_3_code
def zy_XTexture_halve : MethodName := ⟨"OrreryBox$Texture", "halve", "(III)V"⟩
theorem zc_XTexture_halve : Cond.code zy_XTexture_halve zb_XTexture_halve 8 none ∈ gw := gw_t 1239 (by decide +kernel) rfl
theorem zq_XTexture_halve : zy_XTexture_halve.cls ≠ "java/lang/invoke/MethodHandle" ∧ zy_XTexture_halve.cls ≠ "java/lang/invoke/VarHandle" ∧ (parseMethodDescriptor zy_XTexture_halve.desc).map (fun d => d.parameters.length) = some 3 := by decide +kernel
theorem zd_XTexture_halve_0 : decode zb_XTexture_halve 0 = .ok (.iload_n 2, 1) := by decide +kernel
theorem zd_XTexture_halve_1 : decode zb_XTexture_halve 1 = .ok (.iconst 2, 1) := by decide +kernel
theorem zd_XTexture_halve_2 : decode zb_XTexture_halve 2 = .ok (.idiv, 1) := by decide +kernel
theorem zd_XTexture_halve_3 : decode zb_XTexture_halve 3 = .ok (.istore 4, 2) := by decide +kernel
theorem zd_XTexture_halve_5 : decode zb_XTexture_halve 5 = .ok (.iconst 0, 1) := by decide +kernel
theorem zd_XTexture_halve_6 : decode zb_XTexture_halve 6 = .ok (.istore 5, 2) := by decide +kernel
theorem zd_XTexture_halve_8 : decode zb_XTexture_halve 8 = .ok (.iload 5, 2) := by decide +kernel
theorem zd_XTexture_halve_10 : decode zb_XTexture_halve 10 = .ok (.iload 4, 2) := by decide +kernel
theorem zd_XTexture_halve_12 : decode zb_XTexture_halve 12 = .ok (.if_icmp .ge 94, 3) := by decide +kernel
theorem zd_XTexture_halve_15 : decode zb_XTexture_halve 15 = .ok (.iconst 0, 1) := by decide +kernel
theorem zd_XTexture_halve_16 : decode zb_XTexture_halve 16 = .ok (.istore 6, 2) := by decide +kernel
theorem zd_XTexture_halve_18 : decode zb_XTexture_halve 18 = .ok (.iload 6, 2) := by decide +kernel
theorem zd_XTexture_halve_20 : decode zb_XTexture_halve 20 = .ok (.iload 4, 2) := by decide +kernel
theorem zd_XTexture_halve_22 : decode zb_XTexture_halve 22 = .ok (.if_icmp .ge 78, 3) := by decide +kernel
theorem zd_XTexture_halve_25 : decode zb_XTexture_halve 25 = .ok (.iload_n 1, 1) := by decide +kernel
theorem zd_XTexture_halve_26 : decode zb_XTexture_halve 26 = .ok (.iconst 2, 1) := by decide +kernel
theorem zd_XTexture_halve_27 : decode zb_XTexture_halve 27 = .ok (.iload 5, 2) := by decide +kernel
theorem zd_XTexture_halve_29 : decode zb_XTexture_halve 29 = .ok (.imul, 1) := by decide +kernel
theorem zd_XTexture_halve_30 : decode zb_XTexture_halve 30 = .ok (.iload_n 2, 1) := by decide +kernel
theorem zd_XTexture_halve_31 : decode zb_XTexture_halve 31 = .ok (.imul, 1) := by decide +kernel
theorem zd_XTexture_halve_32 : decode zb_XTexture_halve 32 = .ok (.iadd, 1) := by decide +kernel
theorem zd_XTexture_halve_33 : decode zb_XTexture_halve 33 = .ok (.iconst 2, 1) := by decide +kernel
theorem zd_XTexture_halve_34 : decode zb_XTexture_halve 34 = .ok (.iload 6, 2) := by decide +kernel
theorem zd_XTexture_halve_36 : decode zb_XTexture_halve 36 = .ok (.imul, 1) := by decide +kernel
theorem zd_XTexture_halve_37 : decode zb_XTexture_halve 37 = .ok (.iadd, 1) := by decide +kernel
theorem zd_XTexture_halve_38 : decode zb_XTexture_halve 38 = .ok (.istore 7, 2) := by decide +kernel
theorem zd_XTexture_halve_40 : decode zb_XTexture_halve 40 = .ok (.aload_n 0, 1) := by decide +kernel
theorem zd_XTexture_halve_41 : decode zb_XTexture_halve 41 = .ok (.getfield 7, 3) := by decide +kernel
theorem zd_XTexture_halve_44 : decode zb_XTexture_halve 44 = .ok (.iload_n 3, 1) := by decide +kernel
theorem zd_XTexture_halve_45 : decode zb_XTexture_halve 45 = .ok (.iload 5, 2) := by decide +kernel
theorem zd_XTexture_halve_47 : decode zb_XTexture_halve 47 = .ok (.iload 4, 2) := by decide +kernel
theorem zd_XTexture_halve_49 : decode zb_XTexture_halve 49 = .ok (.imul, 1) := by decide +kernel
theorem zd_XTexture_halve_50 : decode zb_XTexture_halve 50 = .ok (.iadd, 1) := by decide +kernel
theorem zd_XTexture_halve_51 : decode zb_XTexture_halve 51 = .ok (.iload 6, 2) := by decide +kernel
theorem zd_XTexture_halve_53 : decode zb_XTexture_halve 53 = .ok (.iadd, 1) := by decide +kernel
theorem zd_XTexture_halve_54 : decode zb_XTexture_halve 54 = .ok (.aload_n 0, 1) := by decide +kernel
theorem zd_XTexture_halve_55 : decode zb_XTexture_halve 55 = .ok (.getfield 7, 3) := by decide +kernel
theorem zd_XTexture_halve_58 : decode zb_XTexture_halve 58 = .ok (.iload 7, 2) := by decide +kernel
theorem zd_XTexture_halve_60 : decode zb_XTexture_halve 60 = .ok (.iaload, 1) := by decide +kernel
theorem zd_XTexture_halve_61 : decode zb_XTexture_halve 61 = .ok (.aload_n 0, 1) := by decide +kernel
theorem zd_XTexture_halve_62 : decode zb_XTexture_halve 62 = .ok (.getfield 7, 3) := by decide +kernel
theorem zd_XTexture_halve_65 : decode zb_XTexture_halve 65 = .ok (.iload 7, 2) := by decide +kernel
theorem zd_XTexture_halve_67 : decode zb_XTexture_halve 67 = .ok (.iconst 1, 1) := by decide +kernel
theorem zd_XTexture_halve_68 : decode zb_XTexture_halve 68 = .ok (.iadd, 1) := by decide +kernel
theorem zd_XTexture_halve_69 : decode zb_XTexture_halve 69 = .ok (.iaload, 1) := by decide +kernel
theorem zd_XTexture_halve_70 : decode zb_XTexture_halve 70 = .ok (.aload_n 0, 1) := by decide +kernel
theorem zd_XTexture_halve_71 : decode zb_XTexture_halve 71 = .ok (.getfield 7, 3) := by decide +kernel
theorem zd_XTexture_halve_74 : decode zb_XTexture_halve 74 = .ok (.iload 7, 2) := by decide +kernel
theorem zd_XTexture_halve_76 : decode zb_XTexture_halve 76 = .ok (.iload_n 2, 1) := by decide +kernel
theorem zd_XTexture_halve_77 : decode zb_XTexture_halve 77 = .ok (.iadd, 1) := by decide +kernel
theorem zd_XTexture_halve_78 : decode zb_XTexture_halve 78 = .ok (.iaload, 1) := by decide +kernel
theorem zd_XTexture_halve_79 : decode zb_XTexture_halve 79 = .ok (.aload_n 0, 1) := by decide +kernel
theorem zd_XTexture_halve_80 : decode zb_XTexture_halve 80 = .ok (.getfield 7, 3) := by decide +kernel
theorem zd_XTexture_halve_83 : decode zb_XTexture_halve 83 = .ok (.iload 7, 2) := by decide +kernel
theorem zd_XTexture_halve_85 : decode zb_XTexture_halve 85 = .ok (.iload_n 2, 1) := by decide +kernel
theorem zd_XTexture_halve_86 : decode zb_XTexture_halve 86 = .ok (.iadd, 1) := by decide +kernel
theorem zd_XTexture_halve_87 : decode zb_XTexture_halve 87 = .ok (.iconst 1, 1) := by decide +kernel
theorem zd_XTexture_halve_88 : decode zb_XTexture_halve 88 = .ok (.iadd, 1) := by decide +kernel
theorem zd_XTexture_halve_89 : decode zb_XTexture_halve 89 = .ok (.iaload, 1) := by decide +kernel
theorem zd_XTexture_halve_90 : decode zb_XTexture_halve 90 = .ok (.invokestatic 27, 3) := by decide +kernel
theorem zd_XTexture_halve_93 : decode zb_XTexture_halve 93 = .ok (.iastore, 1) := by decide +kernel
theorem zd_XTexture_halve_94 : decode zb_XTexture_halve 94 = .ok (.iinc 6 1, 3) := by decide +kernel
theorem zd_XTexture_halve_97 : decode zb_XTexture_halve 97 = .ok (.goto (-79), 3) := by decide +kernel
theorem zd_XTexture_halve_100 : decode zb_XTexture_halve 100 = .ok (.iinc 5 1, 3) := by decide +kernel
theorem zd_XTexture_halve_103 : decode zb_XTexture_halve 103 = .ok (.goto (-95), 3) := by decide +kernel
theorem zd_XTexture_halve_106 : decode zb_XTexture_halve 106 = .ok (.return_, 1) := by decide +kernel
theorem zw_1240 : (Jvm.Cond.methodLink "OrreryBox$Texture" (27 : Nat) ({ cls := "OrreryBox$Texture", name := "mean", desc := "(IIII)I" } : Jvm.MethodName)) ∈ gw := gw_t 1240 (by decide +kernel) rfl
theorem zw_1241 : (Jvm.Cond.static ({ cls := "OrreryBox$Texture", name := "mean", desc := "(IIII)I" } : Jvm.MethodName)) ∈ gw := gw_t 1241 (by decide +kernel) rfl
theorem zs_XTexture_27 : zwS "OrreryBox$Texture" 27 zy_XTexture_mean zb_XTexture_mean 7 (some .int) := ⟨zw_1240, zw_1241, zw_6, zc_XTexture_mean⟩
def L_XTexture_halve_18 (sh : zSh) (fuel : Nat) (v0 : Nat) (v1 : Int32) (v2 : Int32) (v3 : Int32) (v4 : Int32) (v5 : Int32) (v6 : Int32) (mm : zMem) : Option (Nat × Int32 × Int32 × Int32 × Int32 × Int32 × Int32 × zMem) := match fuel with
  | 0 => none
  | fu + 1 => (if v4 ≤ v6 then some (v0, v1, v2, v3, v4, v5, v6, mm) else zoL ((v1 + ((2 * v5) * v2)) + (2 * v6)) (fun x4 => zoS (sh v0) 10 (fun le6 => Option.bind (mm.2.2 v0 4) (fun a7 => zoS (sh v0) 10 (fun le9 => Option.bind (mm.2.2 v0 4) (fun a10 => zoS (sh a10) 100 (fun le12 => if (x4 : Int32) < 0 ∨ le12 ≤ (x4 : Int32).toNatClampNeg then none else zoS (sh v0) 10 (fun le15 => Option.bind (mm.2.2 v0 4) (fun a16 => zoL (x4 + 1) (fun i17 => zoS (sh a16) 100 (fun le19 => if (i17 : Int32) < 0 ∨ le19 ≤ (i17 : Int32).toNatClampNeg then none else zoS (sh v0) 10 (fun le22 => Option.bind (mm.2.2 v0 4) (fun a23 => zoL (x4 + v2) (fun i24 => zoS (sh a23) 100 (fun le26 => if (i24 : Int32) < 0 ∨ le26 ≤ (i24 : Int32).toNatClampNeg then none else zoS (sh v0) 10 (fun le29 => Option.bind (mm.2.2 v0 4) (fun a30 => zoL ((x4 + v2) + 1) (fun i31 => zoS (sh a30) 100 (fun le33 => if (i31 : Int32) < 0 ∨ le33 ≤ (i31 : Int32).toNatClampNeg then none else zoL (mm.1 a10 (x4 : Int32).toNatClampNeg) (fun x35 => zoL (mm.1 a16 (i17 : Int32).toNatClampNeg) (fun x36 => zoL (mm.1 a23 (i24 : Int32).toNatClampNeg) (fun x37 => zoL (mm.1 a30 (i31 : Int32).toNatClampNeg) (fun x38 => Option.bind (F_XTexture_mean sh mm x35 x36 x37 x38) (fun p39 => zoL ((v3 + (v5 * v4)) + v6) (fun i40 => zoS (sh a7) 100 (fun le42 => if (i40 : Int32) < 0 ∨ le42 ≤ (i40 : Int32).toNatClampNeg then none else zoL (mI (p39.2) a7 (i40 : Int32).toNatClampNeg (p39.1)) (fun mm44 => L_XTexture_halve_18 sh fu v0 v1 v2 v3 v4 v5 (v6 + 1) mm44)))))))))))))))))))))))))))
set_option maxHeartbeats 4000000 in
set_option maxRecDepth 100000 in
theorem lp_XTexture_halve_18 {p : Program} {l : Launch} {e : Env} {s : State} {m : MethodId} {args : Array Value} {below : List Frame} {meth : Method} {c : Code} {D : va_G} {tA : Nat → ClassId} {b n : Nat} {post : Option Value → zV → Nat → Prop} {sh : zSh} (F : zF p s m args meth c zb_XTexture_halve 8 "OrreryBox$Texture" D tA b) : ∀ (fuel : Nat) (v0 : Nat) (v1 : Int32) (v2 : Int32) (v3 : Int32) (v4 : Int32) (v5 : Int32) (v6 : Int32) (mm : zMem) (r : Nat × Int32 × Int32 × Int32 × Int32 × Int32 × Int32 × zMem), L_XTexture_halve_18 sh fuel v0 v1 v2 v3 v4 v5 v6 mm = some r → (Z p l e { frames := 1, cells := 0, slots := 0, locals := 26 } s m args below meth c D b 8 (MQ below (zQ D b post) args s 0 0 (fun q => b ≤ q)) (zW tA b sh r.2.2.2.2.2.2.2) n 0 0 100 [(0, .ref (b + (r.1))), (1, .int (r.2.1)), (2, .int (r.2.2.1)), (3, .int (r.2.2.2.1)), (4, .int (r.2.2.2.2.1)), (5, .int (r.2.2.2.2.2.1)), (6, .int (r.2.2.2.2.2.2.1))] []) → Z p l e { frames := 1, cells := 0, slots := 0, locals := 26 } s m args below meth c D b 8 (MQ below (zQ D b post) args s 0 0 (fun q => b ≤ q)) (zW tA b sh mm) n 0 0 18 [(0, .ref (b + v0)), (1, .int v1), (2, .int v2), (3, .int v3), (4, .int v4), (5, .int v5), (6, .int v6)] [] := by
  intro fuel
  induction fuel with
  | zero =>
    intro v0 v1 v2 v3 v4 v5 v6 mm r h
    cases h
  | succ fu ih =>
    intro v0 v1 v2 v3 v4 v5 v6 mm r h hx0
    rw [L_XTexture_halve_18] at h
    refine zr_iload F zd_XTexture_halve_18 rfl ?_
    refine zr_iload F zd_XTexture_halve_20 rfl ?_
    refine zr_icmp_ge F 100 zd_XTexture_halve_22 (by decide) (fun hb3 => ?_) (fun hb3 => ?_)
    ·
      replace h := (if_pos hb3).symm.trans h
      obtain rfl := Option.some.inj h
      refine zr_loc (L' := [(0, .ref (b + v0)), (1, .int v1), (2, .int v2), (3, .int v3), (4, .int v4), (5, .int v5), (6, .int v6)]) ⟨rfl, rfl, rfl, rfl, rfl, rfl, rfl, trivial⟩ ?_
      exact hx0 
    ·
      replace h := (if_neg hb3).symm.trans h
      refine zr_iload_n F zd_XTexture_halve_25 rfl ?_
      refine zr_pcn 26 rfl ?_
      refine zr_iconstv (v := 2) F zd_XTexture_halve_26 (by decide) ?_
      refine zr_iload F zd_XTexture_halve_27 rfl ?_
      refine zr_imul F zd_XTexture_halve_29 ?_
      refine zr_iload_n F zd_XTexture_halve_30 rfl ?_
      refine zr_imul F zd_XTexture_halve_31 ?_
      refine zr_iadd F zd_XTexture_halve_32 ?_
      refine zr_iconstv (v := 2) F zd_XTexture_halve_33 (by decide) ?_
      refine zr_iload F zd_XTexture_halve_34 rfl ?_
      refine zr_pcn 36 rfl ?_
      refine zr_imul F zd_XTexture_halve_36 ?_
      refine zr_iadd F zd_XTexture_halve_37 ?_
      obtain ⟨x4, ex4, h⟩ := zoL_s h
      rw [← ex4]
      refine zr_istore F zd_XTexture_halve_38 (by decide) ?_
      refine zr_aload_n F zd_XTexture_halve_40 rfl ?_
      obtain ⟨le6, hs5, h⟩ := zoS_s h
      obtain ⟨a7, ea7, h⟩ := zoB_s h
      refine zr_get F 10 4 zd_XTexture_halve_41 (zW_o hs5 (by decide)) rfl (by decide) zw_155 rfl (by rfl) ?_
      refine zr_tor ea7 ?_
      refine zr_iload_n F zd_XTexture_halve_44 rfl ?_
      refine zr_iload F zd_XTexture_halve_45 rfl ?_
      refine zr_iload F zd_XTexture_halve_47 rfl ?_
      refine zr_pcn 49 rfl ?_
      refine zr_imul F zd_XTexture_halve_49 ?_
      refine zr_iadd F zd_XTexture_halve_50 ?_
      refine zr_iload F zd_XTexture_halve_51 rfl ?_
      refine zr_iadd F zd_XTexture_halve_53 ?_
      refine zr_aload_n F zd_XTexture_halve_54 rfl ?_
      obtain ⟨le9, hs8, h⟩ := zoS_s h
      obtain ⟨a10, ea10, h⟩ := zoB_s h
      refine zr_get F 10 4 zd_XTexture_halve_55 (zW_o hs8 (by decide)) rfl (by decide) zw_155 rfl (by rfl) ?_
      refine zr_tor ea10 ?_
      refine zr_iload F zd_XTexture_halve_58 rfl ?_
      obtain ⟨le12, hs11, h⟩ := zoS_s h
      obtain ⟨hi13, h⟩ := zoI_s h
      refine zr_iald F zd_XTexture_halve_60 (zW_a0 hs11) hi13 ?_
      refine zr_pcn 61 rfl ?_
      refine zr_aload_n F zd_XTexture_halve_61 rfl ?_
      obtain ⟨le15, hs14, h⟩ := zoS_s h
      obtain ⟨a16, ea16, h⟩ := zoB_s h
      refine zr_get F 10 4 zd_XTexture_halve_62 (zW_o hs14 (by decide)) rfl (by decide) zw_155 rfl (by rfl) ?_
      refine zr_tor ea16 ?_
      refine zr_iload F zd_XTexture_halve_65 rfl ?_
      refine zr_iconstv (v := 1) F zd_XTexture_halve_67 (by decide) ?_
      refine zr_iadd F zd_XTexture_halve_68 ?_
      obtain ⟨i17, ei17, h⟩ := zoL_s h
      rw [← ei17]
      obtain ⟨le19, hs18, h⟩ := zoS_s h
      obtain ⟨hi20, h⟩ := zoI_s h
      refine zr_iald F zd_XTexture_halve_69 (zW_a0 hs18) hi20 ?_
      refine zr_aload_n F zd_XTexture_halve_70 rfl ?_
      obtain ⟨le22, hs21, h⟩ := zoS_s h
      obtain ⟨a23, ea23, h⟩ := zoB_s h
      refine zr_get F 10 4 zd_XTexture_halve_71 (zW_o hs21 (by decide)) rfl (by decide) zw_155 rfl (by rfl) ?_
      refine zr_tor ea23 ?_
      refine zr_pcn 74 rfl ?_
      refine zr_iload F zd_XTexture_halve_74 rfl ?_
      refine zr_iload_n F zd_XTexture_halve_76 rfl ?_
      refine zr_iadd F zd_XTexture_halve_77 ?_
      obtain ⟨i24, ei24, h⟩ := zoL_s h
      rw [← ei24]
      obtain ⟨le26, hs25, h⟩ := zoS_s h
      obtain ⟨hi27, h⟩ := zoI_s h
      refine zr_iald F zd_XTexture_halve_78 (zW_a0 hs25) hi27 ?_
      refine zr_aload_n F zd_XTexture_halve_79 rfl ?_
      obtain ⟨le29, hs28, h⟩ := zoS_s h
      obtain ⟨a30, ea30, h⟩ := zoB_s h
      refine zr_get F 10 4 zd_XTexture_halve_80 (zW_o hs28 (by decide)) rfl (by decide) zw_155 rfl (by rfl) ?_
      refine zr_tor ea30 ?_
      refine zr_iload F zd_XTexture_halve_83 rfl ?_
      refine zr_iload_n F zd_XTexture_halve_85 rfl ?_
      refine zr_pcn 86 rfl ?_
      refine zr_iadd F zd_XTexture_halve_86 ?_
      refine zr_iconstv (v := 1) F zd_XTexture_halve_87 (by decide) ?_
      refine zr_iadd F zd_XTexture_halve_88 ?_
      obtain ⟨i31, ei31, h⟩ := zoL_s h
      rw [← ei31]
      obtain ⟨le33, hs32, h⟩ := zoS_s h
      obtain ⟨hi34, h⟩ := zoI_s h
      refine zr_iald F zd_XTexture_halve_89 (zW_a0 hs32) hi34 ?_
      obtain ⟨x35, ex35, h⟩ := zoL_s h
      rw [← ex35]
      obtain ⟨x36, ex36, h⟩ := zoL_s h
      rw [← ex36]
      obtain ⟨x37, ex37, h⟩ := zoL_s h
      rw [← ex37]
      obtain ⟨x38, ex38, h⟩ := zoL_s h
      rw [← ex38]
      obtain ⟨p39, ep39, h⟩ := zoB_s h
      refine zr_callS1 F (k_XTexture_mean l D tA b sh _ ep39) zd_XTexture_halve_90 zs_XTexture_27 zq_XTexture_mean rfl rfl ⟨(Nat.le_of_ble_eq_true rfl), (Nat.le_of_ble_eq_true rfl)⟩ (Nat.le_of_ble_eq_true rfl) ⟨(Nat.le_of_ble_eq_true rfl), (Nat.le_of_ble_eq_true rfl)⟩ ?_
      obtain ⟨i40, ei40, h⟩ := zoL_s h
      rw [← ei40]
      obtain ⟨le42, hs41, h⟩ := zoS_s h
      obtain ⟨hi43, h⟩ := zoI_s h
      refine zr_iast F zd_XTexture_halve_93 (zW_a0 hs41) hi43 ?_
      obtain ⟨mm44, emm44, h⟩ := zoL_s h
      refine zr_norm (zW tA b sh mm44) _ (by rw [emm44]; exact zW_s0 hs41) rfl ?_
      refine zr_iinc (v := (v6 + 1)) F zd_XTexture_halve_94 rfl rfl (by decide) ?_
      refine zr_goto F 18 zd_XTexture_halve_97 (by decide) ?_
      refine zr_loc (L' := [(0, .ref (b + v0)), (1, .int v1), (2, .int v2), (3, .int v3), (4, .int v4), (5, .int v5), (6, .int (v6 + 1))]) ⟨rfl, rfl, rfl, rfl, rfl, rfl, rfl, trivial⟩ ?_
      exact ih _ _ _ _ _ _ _ _ _ h hx0
def L_XTexture_halve_8 (sh : zSh) (fuel : Nat) (v0 : Nat) (v1 : Int32) (v2 : Int32) (v3 : Int32) (v4 : Int32) (v5 : Int32) (mm : zMem) : Option (Nat × Int32 × Int32 × Int32 × Int32 × Int32 × zMem) := match fuel with
  | 0 => none
  | fu + 1 => (if v4 ≤ v5 then some (v0, v1, v2, v3, v4, v5, mm) else Option.bind (L_XTexture_halve_18 sh zfuel v0 v1 v2 v3 v4 v5 0 mm) (fun q45 => L_XTexture_halve_8 sh fu (q45.1) (q45.2.1) (q45.2.2.1) (q45.2.2.2.1) (q45.2.2.2.2.1) (q45.2.2.2.2.2.1 + 1) (q45.2.2.2.2.2.2.2)))
set_option maxHeartbeats 4000000 in
set_option maxRecDepth 100000 in
theorem lp_XTexture_halve_8 {p : Program} {l : Launch} {e : Env} {s : State} {m : MethodId} {args : Array Value} {below : List Frame} {meth : Method} {c : Code} {D : va_G} {tA : Nat → ClassId} {b n : Nat} {post : Option Value → zV → Nat → Prop} {sh : zSh} (F : zF p s m args meth c zb_XTexture_halve 8 "OrreryBox$Texture" D tA b) : ∀ (fuel : Nat) (v0 : Nat) (v1 : Int32) (v2 : Int32) (v3 : Int32) (v4 : Int32) (v5 : Int32) (mm : zMem) (r : Nat × Int32 × Int32 × Int32 × Int32 × Int32 × zMem), L_XTexture_halve_8 sh fuel v0 v1 v2 v3 v4 v5 mm = some r → (Z p l e { frames := 1, cells := 0, slots := 0, locals := 26 } s m args below meth c D b 8 (MQ below (zQ D b post) args s 0 0 (fun q => b ≤ q)) (zW tA b sh r.2.2.2.2.2.2) n 0 0 106 [(0, .ref (b + (r.1))), (1, .int (r.2.1)), (2, .int (r.2.2.1)), (3, .int (r.2.2.2.1)), (4, .int (r.2.2.2.2.1)), (5, .int (r.2.2.2.2.2.1))] []) → Z p l e { frames := 1, cells := 0, slots := 0, locals := 26 } s m args below meth c D b 8 (MQ below (zQ D b post) args s 0 0 (fun q => b ≤ q)) (zW tA b sh mm) n 0 0 8 [(0, .ref (b + v0)), (1, .int v1), (2, .int v2), (3, .int v3), (4, .int v4), (5, .int v5)] [] := by
  intro fuel
  induction fuel with
  | zero =>
    intro v0 v1 v2 v3 v4 v5 mm r h
    cases h
  | succ fu ih =>
    intro v0 v1 v2 v3 v4 v5 mm r h hx0
    rw [L_XTexture_halve_8] at h
    refine zr_iload F zd_XTexture_halve_8 rfl ?_
    refine zr_pcn 10 rfl ?_
    refine zr_iload F zd_XTexture_halve_10 rfl ?_
    refine zr_icmp_ge F 106 zd_XTexture_halve_12 (by decide) (fun hb2 => ?_) (fun hb2 => ?_)
    ·
      replace h := (if_pos hb2).symm.trans h
      obtain rfl := Option.some.inj h
      refine zr_loc (L' := [(0, .ref (b + v0)), (1, .int v1), (2, .int v2), (3, .int v3), (4, .int v4), (5, .int v5)]) ⟨rfl, rfl, rfl, rfl, rfl, rfl, trivial⟩ ?_
      exact hx0 
    ·
      replace h := (if_neg hb2).symm.trans h
      refine zr_iconstv (v := 0) F zd_XTexture_halve_15 (by decide) ?_
      refine zr_istore F zd_XTexture_halve_16 (by decide) ?_
      obtain ⟨q45, eq45, h⟩ := zoB_s h
      refine zr_loc (L' := [(0, .ref (b + v0)), (1, .int v1), (2, .int v2), (3, .int v3), (4, .int v4), (5, .int v5), (6, .int 0)]) ⟨rfl, rfl, rfl, rfl, rfl, rfl, rfl, trivial⟩ ?_
      refine lp_XTexture_halve_18 F _ _ _ _ _ _ _ _ _ _ eq45 ?_
      ·
        refine zr_pcn 100 rfl ?_
        refine zr_iinc (v := (q45.2.2.2.2.2.1 + 1)) F zd_XTexture_halve_100 rfl rfl (by decide) ?_
        refine zr_goto F 8 zd_XTexture_halve_103 (by decide) ?_
        refine zr_loc (L' := [(0, .ref (b + (q45.1))), (1, .int (q45.2.1)), (2, .int (q45.2.2.1)), (3, .int (q45.2.2.2.1)), (4, .int (q45.2.2.2.2.1)), (5, .int (q45.2.2.2.2.2.1 + 1))]) ⟨rfl, rfl, rfl, rfl, rfl, rfl, trivial⟩ ?_
        exact ih _ _ _ _ _ _ _ _ h hx0
def F_XTexture_halve (sh : zSh) (mm : zMem) (o : Nat) (x0_ : Int32) (x1_ : Int32) (x2_ : Int32) : Option zMem := zoL (x1_ / 2) (fun x1 => Option.bind (L_XTexture_halve_8 sh zfuel o x0_ x1_ x2_ x1 0 mm) (fun q46 => some (q46.2.2.2.2.2.2)))
set_option maxHeartbeats 4000000 in
set_option maxRecDepth 100000 in
theorem k_XTexture_halve (l : Launch) (D : va_G) (tA : Nat → ClassId) (b : Nat) (sh : zSh) (n : Nat) {mm : zMem} {o : Nat} {x0_ : Int32} {x1_ : Int32} {x2_ : Int32} {r : zMem} (h : F_XTexture_halve sh mm o x0_ x1_ x2_ = some r) : zM l D tA b zy_XTexture_halve zb_XTexture_halve 8 none 1 26 0 0 [.ref (b + o), .int x0_, .int x1_, .int x2_] (zW tA b sh mm) n (zE none (zW tA b sh r) n) := by
  unfold F_XTexture_halve at h
  refine zM_of (own := "OrreryBox$Texture") (plainFor_of_name (by decide)) rfl (Nat.le_of_ble_eq_true rfl) (fun p e s m below meth c F hr hin hH => ?_)
  refine zr_iload_n F zd_XTexture_halve_0 rfl ?_
  refine zr_iconstv (v := 2) F zd_XTexture_halve_1 (by decide) ?_
  refine zr_idiv F zd_XTexture_halve_2 (by decide) ?_
  obtain ⟨x1, ex1, h⟩ := zoL_s h
  rw [← ex1]
  refine zr_istore F zd_XTexture_halve_3 (by decide) ?_
  refine zr_iconstv (v := 0) F zd_XTexture_halve_5 (by decide) ?_
  refine zr_istore F zd_XTexture_halve_6 (by decide) ?_
  obtain ⟨q46, eq46, h⟩ := zoB_s h
  refine zr_loc (L' := [(0, .ref (b + o)), (1, .int x0_), (2, .int x1_), (3, .int x2_), (4, .int x1), (5, .int 0)]) ⟨rfl, rfl, rfl, rfl, rfl, rfl, trivial⟩ ?_
  refine lp_XTexture_halve_8 F _ _ _ _ _ _ _ _ _ eq46 ?_
  ·
    obtain rfl := Option.some.inj h
    exact zr_vret F hr zd_XTexture_halve_106 (Nat.le_of_ble_eq_true rfl) (Nat.le_of_ble_eq_true rfl) ⟨rfl, rfl, rfl⟩
abbrev zb_XTexture_texel : ByteArray := prog_11_method_8_code
def zy_XTexture_texel : MethodName := ⟨"OrreryBox$Texture", "texel", "(IIJJ)I"⟩
theorem zc_XTexture_texel : Cond.code zy_XTexture_texel zb_XTexture_texel 7 (some .int) ∈ gw := gw_t 851 (by decide +kernel) rfl
theorem zq_XTexture_texel : zy_XTexture_texel.cls ≠ "java/lang/invoke/MethodHandle" ∧ zy_XTexture_texel.cls ≠ "java/lang/invoke/VarHandle" ∧ (parseMethodDescriptor zy_XTexture_texel.desc).map (fun d => d.parameters.length) = some 4 := by decide +kernel
theorem zd_XTexture_texel_0 : decode zb_XTexture_texel 0 = .ok (.aload_n 0, 1) := by decide +kernel
theorem zd_XTexture_texel_1 : decode zb_XTexture_texel 1 = .ok (.getfield 7, 3) := by decide +kernel
theorem zd_XTexture_texel_4 : decode zb_XTexture_texel 4 = .ok (.iload_n 1, 1) := by decide +kernel
theorem zd_XTexture_texel_5 : decode zb_XTexture_texel 5 = .ok (.aload_n 0, 1) := by decide +kernel
theorem zd_XTexture_texel_6 : decode zb_XTexture_texel 6 = .ok (.lload 5, 2) := by decide +kernel
theorem zd_XTexture_texel_8 : decode zb_XTexture_texel 8 = .ok (.l2i, 1) := by decide +kernel
theorem zd_XTexture_texel_9 : decode zb_XTexture_texel 9 = .ok (.iload_n 2, 1) := by decide +kernel
theorem zd_XTexture_texel_10 : decode zb_XTexture_texel 10 = .ok (.invokevirtual 48, 3) := by decide +kernel
theorem zd_XTexture_texel_13 : decode zb_XTexture_texel 13 = .ok (.iload_n 2, 1) := by decide +kernel
theorem zd_XTexture_texel_14 : decode zb_XTexture_texel 14 = .ok (.imul, 1) := by decide +kernel
theorem zd_XTexture_texel_15 : decode zb_XTexture_texel 15 = .ok (.iadd, 1) := by decide +kernel
theorem zd_XTexture_texel_16 : decode zb_XTexture_texel 16 = .ok (.aload_n 0, 1) := by decide +kernel
theorem zd_XTexture_texel_17 : decode zb_XTexture_texel 17 = .ok (.lload_n 3, 1) := by decide +kernel
theorem zd_XTexture_texel_18 : decode zb_XTexture_texel 18 = .ok (.l2i, 1) := by decide +kernel
theorem zd_XTexture_texel_19 : decode zb_XTexture_texel 19 = .ok (.iload_n 2, 1) := by decide +kernel
theorem zd_XTexture_texel_20 : decode zb_XTexture_texel 20 = .ok (.invokevirtual 48, 3) := by decide +kernel
theorem zd_XTexture_texel_23 : decode zb_XTexture_texel 23 = .ok (.iadd, 1) := by decide +kernel
theorem zd_XTexture_texel_24 : decode zb_XTexture_texel 24 = .ok (.iaload, 1) := by decide +kernel
theorem zd_XTexture_texel_25 : decode zb_XTexture_texel 25 = .ok (.ireturn, 1) := by decide +kernel
theorem zw_852 : (Jvm.Cond.methodLink "OrreryBox$Texture" (48 : Nat) ({ cls := "OrreryBox$Texture", name := "wrapped", desc := "(II)I" } : Jvm.MethodName)) ∈ gw := gw_t 852 (by decide +kernel) rfl
theorem zw_854 : (Jvm.Cond.instanceMethod ({ cls := "OrreryBox$Texture", name := "wrapped", desc := "(II)I" } : Jvm.MethodName)) ∈ gw := gw_t 854 (by decide +kernel) rfl
theorem zv_23 : (Jvm.Cond.selects "OrreryBox$Texture" (⟨"OrreryBox$Texture", "wrapped", "(II)I"⟩ : MethodName) ⟨"OrreryBox$Texture", "wrapped", "(II)I"⟩) ∈ gw := gw_s 23 (by decide +kernel) rfl
theorem zs_XTexture_48 : zwV "OrreryBox$Texture" 48 "OrreryBox$Texture" zy_XTexture_wrapped zb_XTexture_wrapped 4 (some .int) := ⟨zw_852, zw_854, zv_23, zw_6, zc_XTexture_wrapped⟩
def F_XTexture_texel (sh : zSh) (mm : zMem) (o : Nat) (x0_ : Int32) (x1_ : Int32) (x2_ : Int64) (x3_ : Int64) : Option (Int32 × zMem) := zoS (sh o) 10 (fun le2 => Option.bind (mm.2.2 o 4) (fun a3 => zoS (sh o) 10 (fun le5 => Option.bind (F_XTexture_wrapped sh mm o ((x3_ : Int64).toInt32) x1_) (fun p6 => zoS (sh o) 10 (fun le8 => Option.bind (F_XTexture_wrapped sh (p6.2) o ((x2_ : Int64).toInt32) x1_) (fun p9 => zoL ((x0_ + (p6.1 * x1_)) + p9.1) (fun i10 => zoS (sh a3) 100 (fun le12 => if (i10 : Int32) < 0 ∨ le12 ≤ (i10 : Int32).toNatClampNeg then none else some (((p9.2).1 a3 (i10 : Int32).toNatClampNeg), p9.2)))))))))
set_option maxHeartbeats 4000000 in
set_option maxRecDepth 100000 in
theorem k_XTexture_texel (l : Launch) (D : va_G) (tA : Nat → ClassId) (b : Nat) (sh : zSh) (n : Nat) {mm : zMem} {o : Nat} {x0_ : Int32} {x1_ : Int32} {x2_ : Int64} {x3_ : Int64} {r : (Int32 × zMem)} (h : F_XTexture_texel sh mm o x0_ x1_ x2_ x3_ = some r) : zM l D tA b zy_XTexture_texel zb_XTexture_texel 7 (some .int) 1 23 0 0 [.ref (b + o), .int x0_, .int x1_, .long x2_, .long x3_] (zW tA b sh mm) n (zE (some (.int (r.1))) (zW tA b sh r.2) n) := by
  unfold F_XTexture_texel at h
  refine zM_of (own := "OrreryBox$Texture") (plainFor_of_name (by decide)) rfl (Nat.le_of_ble_eq_true rfl) (fun p e s m below meth c F hr hin hH => ?_)
  refine zr_aload_n F zd_XTexture_texel_0 rfl ?_
  obtain ⟨le2, hs1, h⟩ := zoS_s h
  obtain ⟨a3, ea3, h⟩ := zoB_s h
  refine zr_get F 10 4 zd_XTexture_texel_1 (zW_o hs1 (by decide)) rfl (by decide) zw_155 rfl (by rfl) ?_
  refine zr_tor ea3 ?_
  refine zr_iload_n F zd_XTexture_texel_4 rfl ?_
  refine zr_aload_n F zd_XTexture_texel_5 rfl ?_
  refine zr_lload F zd_XTexture_texel_6 rfl ?_
  refine zr_l2i F zd_XTexture_texel_8 ?_
  refine zr_iload_n F zd_XTexture_texel_9 rfl ?_
  refine zr_pcn 10 rfl ?_
  obtain ⟨le5, hs4, h⟩ := zoS_s h
  obtain ⟨p6, ep6, h⟩ := zoB_s h
  refine zr_callV1 F (k_XTexture_wrapped l D tA b sh _ ep6) zd_XTexture_texel_10 (zW_o hs4 (by decide)) rfl zs_XTexture_48 rfl zq_XTexture_wrapped rfl rfl ⟨(Nat.le_of_ble_eq_true rfl), (Nat.le_of_ble_eq_true rfl)⟩ (Nat.le_of_ble_eq_true rfl) ⟨(Nat.le_of_ble_eq_true rfl), (Nat.le_of_ble_eq_true rfl)⟩ ?_
  refine zr_iload_n F zd_XTexture_texel_13 rfl ?_
  refine zr_imul F zd_XTexture_texel_14 ?_
  refine zr_iadd F zd_XTexture_texel_15 ?_
  refine zr_aload_n F zd_XTexture_texel_16 rfl ?_
  refine zr_lload_n F zd_XTexture_texel_17 rfl ?_
  refine zr_l2i F zd_XTexture_texel_18 ?_
  refine zr_iload_n F zd_XTexture_texel_19 rfl ?_
  refine zr_pcn 20 rfl ?_
  obtain ⟨le8, hs7, h⟩ := zoS_s h
  obtain ⟨p9, ep9, h⟩ := zoB_s h
  refine zr_callV1 F (k_XTexture_wrapped l D tA b sh _ ep9) zd_XTexture_texel_20 (zW_o hs7 (by decide)) rfl zs_XTexture_48 rfl zq_XTexture_wrapped rfl rfl ⟨(Nat.le_of_ble_eq_true rfl), (Nat.le_of_ble_eq_true rfl)⟩ (Nat.le_of_ble_eq_true rfl) ⟨(Nat.le_of_ble_eq_true rfl), (Nat.le_of_ble_eq_true rfl)⟩ ?_
  refine zr_iadd F zd_XTexture_texel_23 ?_
  obtain ⟨i10, ei10, h⟩ := zoL_s h
  rw [← ei10]
  obtain ⟨le12, hs11, h⟩ := zoS_s h
  obtain ⟨hi13, h⟩ := zoI_s h
  refine zr_iald F zd_XTexture_texel_24 (zW_a0 hs11) hi13 ?_
  obtain rfl := Option.some.inj h
  exact zr_iret F hr zd_XTexture_texel_25 (Nat.le_of_ble_eq_true rfl) (Nat.le_of_ble_eq_true rfl) ⟨rfl, rfl, rfl⟩
abbrev zb_XTrack_apply : ByteArray := prog_12_method_2_code
def zy_XTrack_apply : MethodName := ⟨"OrreryBox$Track", "apply", "(I[I)V"⟩
theorem zc_XTrack_apply : Cond.code zy_XTrack_apply zb_XTrack_apply 5 none ∈ gw := gw_t 560 (by decide +kernel) rfl
theorem zq_XTrack_apply : zy_XTrack_apply.cls ≠ "java/lang/invoke/MethodHandle" ∧ zy_XTrack_apply.cls ≠ "java/lang/invoke/VarHandle" ∧ (parseMethodDescriptor zy_XTrack_apply.desc).map (fun d => d.parameters.length) = some 2 := by decide +kernel
theorem zd_XTrack_apply_0 : decode zb_XTrack_apply 0 = .ok (.aload_n 0, 1) := by decide +kernel
theorem zd_XTrack_apply_1 : decode zb_XTrack_apply 1 = .ok (.iload_n 1, 1) := by decide +kernel
theorem zd_XTrack_apply_2 : decode zb_XTrack_apply 2 = .ok (.invokevirtual 18, 3) := by decide +kernel
theorem zd_XTrack_apply_5 : decode zb_XTrack_apply 5 = .ok (.istore_n 3, 1) := by decide +kernel
theorem zd_XTrack_apply_6 : decode zb_XTrack_apply 6 = .ok (.iconst 0, 1) := by decide +kernel
theorem zd_XTrack_apply_7 : decode zb_XTrack_apply 7 = .ok (.istore 4, 2) := by decide +kernel
theorem zd_XTrack_apply_9 : decode zb_XTrack_apply 9 = .ok (.iload 4, 2) := by decide +kernel
theorem zd_XTrack_apply_11 : decode zb_XTrack_apply 11 = .ok (.iconst 3, 1) := by decide +kernel
theorem zd_XTrack_apply_12 : decode zb_XTrack_apply 12 = .ok (.if_icmp .ge 28, 3) := by decide +kernel
theorem zd_XTrack_apply_15 : decode zb_XTrack_apply 15 = .ok (.aload_n 2, 1) := by decide +kernel
theorem zd_XTrack_apply_16 : decode zb_XTrack_apply 16 = .ok (.iconst 3, 1) := by decide +kernel
theorem zd_XTrack_apply_17 : decode zb_XTrack_apply 17 = .ok (.aload_n 0, 1) := by decide +kernel
theorem zd_XTrack_apply_18 : decode zb_XTrack_apply 18 = .ok (.getfield 22, 3) := by decide +kernel
theorem zd_XTrack_apply_21 : decode zb_XTrack_apply 21 = .ok (.imul, 1) := by decide +kernel
theorem zd_XTrack_apply_22 : decode zb_XTrack_apply 22 = .ok (.iload 4, 2) := by decide +kernel
theorem zd_XTrack_apply_24 : decode zb_XTrack_apply 24 = .ok (.iadd, 1) := by decide +kernel
theorem zd_XTrack_apply_25 : decode zb_XTrack_apply 25 = .ok (.aload_n 0, 1) := by decide +kernel
theorem zd_XTrack_apply_26 : decode zb_XTrack_apply 26 = .ok (.iload_n 1, 1) := by decide +kernel
theorem zd_XTrack_apply_27 : decode zb_XTrack_apply 27 = .ok (.iload_n 3, 1) := by decide +kernel
theorem zd_XTrack_apply_28 : decode zb_XTrack_apply 28 = .ok (.iload 4, 2) := by decide +kernel
theorem zd_XTrack_apply_30 : decode zb_XTrack_apply 30 = .ok (.invokevirtual 26, 3) := by decide +kernel
theorem zd_XTrack_apply_33 : decode zb_XTrack_apply 33 = .ok (.iastore, 1) := by decide +kernel
theorem zd_XTrack_apply_34 : decode zb_XTrack_apply 34 = .ok (.iinc 4 1, 3) := by decide +kernel
theorem zd_XTrack_apply_37 : decode zb_XTrack_apply 37 = .ok (.goto (-28), 3) := by decide +kernel
theorem zd_XTrack_apply_40 : decode zb_XTrack_apply 40 = .ok (.return_, 1) := by decide +kernel
theorem zw_561 : (Jvm.Cond.methodLink "OrreryBox$Track" (18 : Nat) ({ cls := "OrreryBox$Track", name := "keyAt", desc := "(I)I" } : Jvm.MethodName)) ∈ gw := gw_t 561 (by decide +kernel) rfl
theorem zw_563 : (Jvm.Cond.instanceMethod ({ cls := "OrreryBox$Track", name := "keyAt", desc := "(I)I" } : Jvm.MethodName)) ∈ gw := gw_t 563 (by decide +kernel) rfl
theorem zv_2 : (Jvm.Cond.selects "OrreryBox$Track" (⟨"OrreryBox$Track", "keyAt", "(I)I"⟩ : MethodName) ⟨"OrreryBox$Track", "keyAt", "(I)I"⟩) ∈ gw := gw_s 2 (by decide +kernel) rfl
theorem zs_XTrack_18 : zwV "OrreryBox$Track" 18 "OrreryBox$Track" zy_XTrack_keyAt zb_XTrack_keyAt 4 (some .int) := ⟨zw_561, zw_563, zv_2, zw_9, zc_XTrack_keyAt⟩
theorem zw_253 : (Jvm.Cond.fieldLink "OrreryBox$Track" (22 : Nat) "OrreryBox$Track" "what" "I") ∈ gw := gw_t 253 (by decide +kernel) rfl
theorem zw_565 : (Jvm.Cond.methodLink "OrreryBox$Track" (26 : Nat) ({ cls := "OrreryBox$Track", name := "valueAt", desc := "(III)I" } : Jvm.MethodName)) ∈ gw := gw_t 565 (by decide +kernel) rfl
theorem zw_567 : (Jvm.Cond.instanceMethod ({ cls := "OrreryBox$Track", name := "valueAt", desc := "(III)I" } : Jvm.MethodName)) ∈ gw := gw_t 567 (by decide +kernel) rfl
theorem zv_3 : (Jvm.Cond.selects "OrreryBox$Track" (⟨"OrreryBox$Track", "valueAt", "(III)I"⟩ : MethodName) ⟨"OrreryBox$Track", "valueAt", "(III)I"⟩) ∈ gw := gw_s 3 (by decide +kernel) rfl
theorem zs_XTrack_26 : zwV "OrreryBox$Track" 26 "OrreryBox$Track" zy_XTrack_valueAt zb_XTrack_valueAt 15 (some .int) := ⟨zw_565, zw_567, zv_3, zw_9, zc_XTrack_valueAt⟩
def L_XTrack_apply_9 (sh : zSh) (fuel : Nat) (v0 : Nat) (v1 : Int32) (v2 : Nat) (v3 : Int32) (v4 : Int32) (mm : zMem) : Option (Nat × Int32 × Nat × Int32 × Int32 × zMem) := match fuel with
  | 0 => none
  | fu + 1 => (if 3 ≤ v4 then some (v0, v1, v2, v3, v4, mm) else zoS (sh v0) 11 (fun le6 => zoS (sh v0) 11 (fun le8 => Option.bind (F_XTrack_valueAt sh mm v0 v1 v3 v4) (fun p9 => zoL ((3 * (mm.1 v0 1)) + v4) (fun i10 => zoS (sh v2) 100 (fun le12 => if (i10 : Int32) < 0 ∨ le12 ≤ (i10 : Int32).toNatClampNeg then none else zoL (mI (p9.2) v2 (i10 : Int32).toNatClampNeg (p9.1)) (fun mm14 => L_XTrack_apply_9 sh fu v0 v1 v2 v3 (v4 + 1) mm14)))))))
set_option maxHeartbeats 4000000 in
set_option maxRecDepth 100000 in
theorem lp_XTrack_apply_9 {p : Program} {l : Launch} {e : Env} {s : State} {m : MethodId} {args : Array Value} {below : List Frame} {meth : Method} {c : Code} {D : va_G} {tA : Nat → ClassId} {b n : Nat} {post : Option Value → zV → Nat → Prop} {sh : zSh} (F : zF p s m args meth c zb_XTrack_apply 5 "OrreryBox$Track" D tA b) : ∀ (fuel : Nat) (v0 : Nat) (v1 : Int32) (v2 : Nat) (v3 : Int32) (v4 : Int32) (mm : zMem) (r : Nat × Int32 × Nat × Int32 × Int32 × zMem), L_XTrack_apply_9 sh fuel v0 v1 v2 v3 v4 mm = some r → (Z p l e { frames := 3, cells := 0, slots := 0, locals := 82 } s m args below meth c D b 5 (MQ below (zQ D b post) args s 0 0 (fun q => b ≤ q)) (zW tA b sh r.2.2.2.2.2) n 0 0 40 [(0, .ref (b + (r.1))), (1, .int (r.2.1)), (2, .ref (b + (r.2.2.1))), (3, .int (r.2.2.2.1)), (4, .int (r.2.2.2.2.1))] []) → Z p l e { frames := 3, cells := 0, slots := 0, locals := 82 } s m args below meth c D b 5 (MQ below (zQ D b post) args s 0 0 (fun q => b ≤ q)) (zW tA b sh mm) n 0 0 9 [(0, .ref (b + v0)), (1, .int v1), (2, .ref (b + v2)), (3, .int v3), (4, .int v4)] [] := by
  intro fuel
  induction fuel with
  | zero =>
    intro v0 v1 v2 v3 v4 mm r h
    cases h
  | succ fu ih =>
    intro v0 v1 v2 v3 v4 mm r h hx0
    rw [L_XTrack_apply_9] at h
    refine zr_iload F zd_XTrack_apply_9 rfl ?_
    refine zr_pcn 11 rfl ?_
    refine zr_iconstv (v := 3) F zd_XTrack_apply_11 (by decide) ?_
    refine zr_icmp_ge F 40 zd_XTrack_apply_12 (by decide) (fun hb4 => ?_) (fun hb4 => ?_)
    ·
      replace h := (if_pos hb4).symm.trans h
      obtain rfl := Option.some.inj h
      refine zr_loc (L' := [(0, .ref (b + v0)), (1, .int v1), (2, .ref (b + v2)), (3, .int v3), (4, .int v4)]) ⟨rfl, rfl, rfl, rfl, rfl, trivial⟩ ?_
      exact hx0 
    ·
      replace h := (if_neg hb4).symm.trans h
      refine zr_aload_n F zd_XTrack_apply_15 rfl ?_
      refine zr_iconstv (v := 3) F zd_XTrack_apply_16 (by decide) ?_
      refine zr_aload_n F zd_XTrack_apply_17 rfl ?_
      obtain ⟨le6, hs5, h⟩ := zoS_s h
      refine zr_get F 11 1 zd_XTrack_apply_18 (zW_o hs5 (by decide)) rfl (by decide) zw_253 rfl (by rfl) ?_
      refine zr_imul F zd_XTrack_apply_21 ?_
      refine zr_iload F zd_XTrack_apply_22 rfl ?_
      refine zr_pcn 24 rfl ?_
      refine zr_iadd F zd_XTrack_apply_24 ?_
      refine zr_aload_n F zd_XTrack_apply_25 rfl ?_
      refine zr_iload_n F zd_XTrack_apply_26 rfl ?_
      refine zr_iload_n F zd_XTrack_apply_27 rfl ?_
      refine zr_iload F zd_XTrack_apply_28 rfl ?_
      obtain ⟨le8, hs7, h⟩ := zoS_s h
      obtain ⟨p9, ep9, h⟩ := zoB_s h
      refine zr_callV1 F (k_XTrack_valueAt l D tA b sh _ ep9) zd_XTrack_apply_30 (zW_o hs7 (by decide)) rfl zs_XTrack_26 rfl zq_XTrack_valueAt rfl rfl ⟨(Nat.le_of_ble_eq_true rfl), (Nat.le_of_ble_eq_true rfl)⟩ (Nat.le_of_ble_eq_true rfl) ⟨(Nat.le_of_ble_eq_true rfl), (Nat.le_of_ble_eq_true rfl)⟩ ?_
      obtain ⟨i10, ei10, h⟩ := zoL_s h
      rw [← ei10]
      obtain ⟨le12, hs11, h⟩ := zoS_s h
      obtain ⟨hi13, h⟩ := zoI_s h
      refine zr_iast F zd_XTrack_apply_33 (zW_a0 hs11) hi13 ?_
      obtain ⟨mm14, emm14, h⟩ := zoL_s h
      refine zr_norm (zW tA b sh mm14) _ (by rw [emm14]; exact zW_s0 hs11) rfl ?_
      refine zr_iinc (v := (v4 + 1)) F zd_XTrack_apply_34 rfl rfl (by decide) ?_
      refine zr_pcn 37 rfl ?_
      refine zr_goto F 9 zd_XTrack_apply_37 (by decide) ?_
      refine zr_loc (L' := [(0, .ref (b + v0)), (1, .int v1), (2, .ref (b + v2)), (3, .int v3), (4, .int (v4 + 1))]) ⟨rfl, rfl, rfl, rfl, rfl, trivial⟩ ?_
      exact ih _ _ _ _ _ _ _ h hx0
def F_XTrack_apply (sh : zSh) (mm : zMem) (o : Nat) (x0_ : Int32) (x1_ : Nat) : Option zMem := zoS (sh o) 11 (fun le2 => Option.bind (F_XTrack_keyAt sh mm o x0_) (fun p3 => Option.bind (L_XTrack_apply_9 sh zfuel o x0_ x1_ (p3.1) 0 (p3.2)) (fun q15 => some (q15.2.2.2.2.2))))
set_option maxHeartbeats 4000000 in
set_option maxRecDepth 100000 in
theorem k_XTrack_apply (l : Launch) (D : va_G) (tA : Nat → ClassId) (b : Nat) (sh : zSh) (n : Nat) {mm : zMem} {o : Nat} {x0_ : Int32} {x1_ : Nat} {r : zMem} (h : F_XTrack_apply sh mm o x0_ x1_ = some r) : zM l D tA b zy_XTrack_apply zb_XTrack_apply 5 none 3 82 0 0 [.ref (b + o), .int x0_, .ref (b + x1_)] (zW tA b sh mm) n (zE none (zW tA b sh r) n) := by
  unfold F_XTrack_apply at h
  refine zM_of (own := "OrreryBox$Track") (plainFor_of_name (by decide)) rfl (Nat.le_of_ble_eq_true rfl) (fun p e s m below meth c F hr hin hH => ?_)
  refine zr_aload_n F zd_XTrack_apply_0 rfl ?_
  refine zr_iload_n F zd_XTrack_apply_1 rfl ?_
  obtain ⟨le2, hs1, h⟩ := zoS_s h
  obtain ⟨p3, ep3, h⟩ := zoB_s h
  refine zr_callV1 F (k_XTrack_keyAt l D tA b sh _ ep3) zd_XTrack_apply_2 (zW_o hs1 (by decide)) rfl zs_XTrack_18 rfl zq_XTrack_keyAt rfl rfl ⟨(Nat.le_of_ble_eq_true rfl), (Nat.le_of_ble_eq_true rfl)⟩ (Nat.le_of_ble_eq_true rfl) ⟨(Nat.le_of_ble_eq_true rfl), (Nat.le_of_ble_eq_true rfl)⟩ ?_
  refine zr_istore_n F zd_XTrack_apply_5 (by decide) ?_
  refine zr_iconstv (v := 0) F zd_XTrack_apply_6 (by decide) ?_
  refine zr_istore F zd_XTrack_apply_7 (by decide) ?_
  obtain ⟨q15, eq15, h⟩ := zoB_s h
  refine zr_loc (L' := [(0, .ref (b + o)), (1, .int x0_), (2, .ref (b + x1_)), (3, .int (p3.1)), (4, .int 0)]) ⟨rfl, rfl, rfl, rfl, rfl, trivial⟩ ?_
  refine lp_XTrack_apply_9 F _ _ _ _ _ _ _ _ eq15 ?_
  ·
    obtain rfl := Option.some.inj h
    exact zr_vret F hr zd_XTrack_apply_40 (Nat.le_of_ble_eq_true rfl) (Nat.le_of_ble_eq_true rfl) ⟨rfl, rfl, rfl⟩
