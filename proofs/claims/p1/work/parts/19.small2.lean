theorem zu_mid2 {f : zV} {k j i : Nat} {x y z w : va_E} (h : k ≠ j) (h2 : k ≠ i) : zu (zu (zu (zu f k x) j y) i z) k w = zu (zu (zu f k w) j y) i z := by
  rw [zu_swap (Ne.symm h2), zu_mid h]
theorem zu_mid3 {f : zV} {k j i g : Nat} {x y z w v : va_E} (h : k ≠ j) (h2 : k ≠ i) (h3 : k ≠ g) : zu (zu (zu (zu (zu f k x) j y) i z) g w) k v = zu (zu (zu (zu f k v) j y) i z) g w := by
  rw [zu_swap (Ne.symm h3), zu_mid2 h h2]
abbrev zb_OB_light : ByteArray := prog_1_method_12_code
def zy_OB_light : MethodName := ⟨"OrreryBox", "light", "(IIII)Z"⟩
theorem zc_OB_light : Cond.code zy_OB_light zb_OB_light 5 (some .boolean) ∈ gw := gw_t 613 (by decide +kernel) rfl
theorem zq_OB_light : zy_OB_light.cls ≠ "java/lang/invoke/MethodHandle" ∧ zy_OB_light.cls ≠ "java/lang/invoke/VarHandle" ∧ (parseMethodDescriptor zy_OB_light.desc).map (fun d => d.parameters.length) = some 4 := by decide +kernel
theorem zd_OB_light_0 : decode zb_OB_light 0 = .ok (.iload_n 1, 1) := by decide +kernel
theorem zd_OB_light_1 : decode zb_OB_light 1 = .ok (.iload_n 2, 1) := by decide +kernel
theorem zd_OB_light_2 : decode zb_OB_light 2 = .ok (.iload_n 3, 1) := by decide +kernel
theorem zd_OB_light_3 : decode zb_OB_light 3 = .ok (.ldc 9, 2) := by decide +kernel
theorem zd_OB_light_5 : decode zb_OB_light 5 = .ok (.invokestatic 113, 3) := by decide +kernel
theorem zd_OB_light_8 : decode zb_OB_light 8 = .ok (.ifCond .eq 14, 3) := by decide +kernel
theorem zd_OB_light_11 : decode zb_OB_light 11 = .ok (.iload 4, 2) := by decide +kernel
theorem zd_OB_light_13 : decode zb_OB_light 13 = .ok (.iconst 0, 1) := by decide +kernel
theorem zd_OB_light_14 : decode zb_OB_light 14 = .ok (.ldc 9, 2) := by decide +kernel
theorem zd_OB_light_16 : decode zb_OB_light 16 = .ok (.invokestatic 97, 3) := by decide +kernel
theorem zd_OB_light_19 : decode zb_OB_light 19 = .ok (.ifCond .ne 5, 3) := by decide +kernel
theorem zd_OB_light_22 : decode zb_OB_light 22 = .ok (.iconst 0, 1) := by decide +kernel
theorem zd_OB_light_23 : decode zb_OB_light 23 = .ok (.ireturn, 1) := by decide +kernel
theorem zd_OB_light_24 : decode zb_OB_light 24 = .ok (.aload_n 0, 1) := by decide +kernel
theorem zd_OB_light_25 : decode zb_OB_light 25 = .ok (.getfield 49, 3) := by decide +kernel
theorem zd_OB_light_28 : decode zb_OB_light 28 = .ok (.getfield 139, 3) := by decide +kernel
theorem zd_OB_light_31 : decode zb_OB_light 31 = .ok (.iconst 0, 1) := by decide +kernel
theorem zd_OB_light_32 : decode zb_OB_light 32 = .ok (.iload_n 1, 1) := by decide +kernel
theorem zd_OB_light_33 : decode zb_OB_light 33 = .ok (.iastore, 1) := by decide +kernel
theorem zd_OB_light_34 : decode zb_OB_light 34 = .ok (.aload_n 0, 1) := by decide +kernel
theorem zd_OB_light_35 : decode zb_OB_light 35 = .ok (.getfield 49, 3) := by decide +kernel
theorem zd_OB_light_38 : decode zb_OB_light 38 = .ok (.getfield 139, 3) := by decide +kernel
theorem zd_OB_light_41 : decode zb_OB_light 41 = .ok (.iconst 1, 1) := by decide +kernel
theorem zd_OB_light_42 : decode zb_OB_light 42 = .ok (.iload_n 2, 1) := by decide +kernel
theorem zd_OB_light_43 : decode zb_OB_light 43 = .ok (.iastore, 1) := by decide +kernel
theorem zd_OB_light_44 : decode zb_OB_light 44 = .ok (.aload_n 0, 1) := by decide +kernel
theorem zd_OB_light_45 : decode zb_OB_light 45 = .ok (.getfield 49, 3) := by decide +kernel
theorem zd_OB_light_48 : decode zb_OB_light 48 = .ok (.getfield 139, 3) := by decide +kernel
theorem zd_OB_light_51 : decode zb_OB_light 51 = .ok (.iconst 2, 1) := by decide +kernel
theorem zd_OB_light_52 : decode zb_OB_light 52 = .ok (.iload_n 3, 1) := by decide +kernel
theorem zd_OB_light_53 : decode zb_OB_light 53 = .ok (.iastore, 1) := by decide +kernel
theorem zd_OB_light_54 : decode zb_OB_light 54 = .ok (.aload_n 0, 1) := by decide +kernel
theorem zd_OB_light_55 : decode zb_OB_light 55 = .ok (.getfield 49, 3) := by decide +kernel
theorem zd_OB_light_58 : decode zb_OB_light 58 = .ok (.getfield 139, 3) := by decide +kernel
theorem zd_OB_light_61 : decode zb_OB_light 61 = .ok (.iconst 3, 1) := by decide +kernel
theorem zd_OB_light_62 : decode zb_OB_light 62 = .ok (.iload 4, 2) := by decide +kernel
theorem zd_OB_light_64 : decode zb_OB_light 64 = .ok (.iastore, 1) := by decide +kernel
theorem zd_OB_light_65 : decode zb_OB_light 65 = .ok (.iconst 1, 1) := by decide +kernel
theorem zd_OB_light_66 : decode zb_OB_light 66 = .ok (.ireturn, 1) := by decide +kernel
theorem zw_595 : (Jvm.Cond.methodLink "OrreryBox" (113 : Nat) ({ cls := "OrreryBox", name := "allWithin", desc := "(IIII)Z" } : Jvm.MethodName)) ∈ gw := gw_t 595 (by decide +kernel) rfl
theorem zw_596 : (Jvm.Cond.static ({ cls := "OrreryBox", name := "allWithin", desc := "(IIII)Z" } : Jvm.MethodName)) ∈ gw := gw_t 596 (by decide +kernel) rfl
theorem zs_OB_113 : zwS "OrreryBox" 113 zy_OB_allWithin zb_OB_allWithin 4 (some .boolean) := ⟨zw_595, zw_596, zw_1, zc_OB_allWithin⟩
theorem zw_307 : (Jvm.Cond.fieldLink "OrreryBox" (139 : Nat) "OrreryBox$Scene" "lamp" "[I") ∈ gw := gw_t 307 (by decide +kernel) rfl
def sp_OB_light (x : Int32) (y : Int32) (z : Int32) (am : Int32) (w : Int32) (h : Int32) (tp : Int32) (sc : Nat) (gr : Int32) (pk : Int32) (q : Nat) (nw : Int32) (pl : Int32) (gl : Nat → Int32) : Int32 := (if (sp_OB_allWithin (x) (y) (z) (65536)) = 0 then 0 else (if (sp_OB_within (am) (0) (65536)) = 0 then 0 else 1))
def sw_OB_light (tA : Nat → ClassId) (b : Nat) (f : zV) (x : Int32) (y : Int32) (z : Int32) (am : Int32) (w : Int32) (h : Int32) (tp : Int32) (sc : Nat) (gr : Int32) (pk : Int32) (q : Nat) (nw : Int32) (pl : Int32) (gl : Nat → Int32) : zV := (if (sp_OB_allWithin (x) (y) (z) (65536)) = 0 then (f) else (if (sp_OB_within (am) (0) (65536)) = 0 then (f) else (zu (f) ((q + 23)) (.inl (tA 0, 4, .inl (upd (upd (upd (upd (gl) ((0 : Int32).toNatClampNeg) (x)) ((1 : Int32).toNatClampNeg) (y)) ((2 : Int32).toNatClampNeg) (z)) ((3 : Int32).toNatClampNeg) (am)))))))
set_option maxHeartbeats 4000000 in
set_option maxRecDepth 100000 in
theorem c_OB_light (l : Launch) (D : va_G) (tA : Nat → ClassId) (b : Nat) (f : zV) (n : Nat) (x : Int32) (y : Int32) (z : Int32) (am : Int32) (w : Int32) (h : Int32) (tp : Int32) (sc : Nat) (gr : Int32) (pk : Int32) (q : Nat) (nw : Int32) (pl : Int32) (gl : Nat → Int32) (hf : f 0 = some (.inr (0, [.int w, .int h, .ref (b + 1), .int tp, .ref (b + 2), .ref (b + sc), .ref (b + 3), .ref (b + 1121), .ref (b + 1178), .ref (b + 5), .int gr, .int pk]))) (hs : f sc = some (.inr (8, zsO b q nw pl))) (hl : f ((q + 23)) = some (.inl (tA 0, 4, .inl (gl)))) (hq : 0 < sc ∧ sc < q) : zM l D tA b zy_OB_light zb_OB_light 5 (some .boolean) 2 45 0 0 [.ref (b + 0), .int x, .int y, .int z, .int am] f n (zE (some (.int (sp_OB_light x y z am w h tp sc gr pk q nw pl gl))) (sw_OB_light tA b f x y z am w h tp sc gr pk q nw pl gl) n) := by
  refine zM_of (own := "OrreryBox") (plainFor_of_name (by decide)) rfl (Nat.le_of_ble_eq_true rfl) (fun p e s m below meth c F hr hin hH => ?_)
  refine zr_iload_n F zd_OB_light_0 rfl ?_
  refine zr_iload_n F zd_OB_light_1 rfl ?_
  refine zr_iload_n F zd_OB_light_2 rfl ?_
  refine zr_ldc F zd_OB_light_3 zw_37 ?_
  refine zr_callS1 F (c_OB_allWithin l D tA b _ _ (x) (y) (z) (65536)) zd_OB_light_5 zs_OB_113 zq_OB_allWithin rfl rfl ⟨(Nat.le_of_ble_eq_true rfl), (Nat.le_of_ble_eq_true rfl)⟩ (Nat.le_of_ble_eq_true rfl) ⟨(Nat.le_of_ble_eq_true rfl), (Nat.le_of_ble_eq_true rfl)⟩ ?_
  refine zr_if_eq F 22 zd_OB_light_8 (by decide) (fun h1 => ?_) (fun h1 => ?_)
  ·
    refine zr_iconstv (v := 0) F zd_OB_light_22 (by decide) ?_
    exact zr_zret F hr rfl zd_OB_light_23 (Nat.le_of_ble_eq_true rfl) (Nat.le_of_ble_eq_true rfl) ⟨by rw [sp_OB_light, if_pos h1], by rw [sw_OB_light, if_pos h1], rfl⟩
  ·
    refine zr_iload F zd_OB_light_11 rfl ?_
    refine zr_iconstv (v := 0) F zd_OB_light_13 (by decide) ?_
    refine zr_ldc F zd_OB_light_14 zw_37 ?_
    refine zr_callS1 F (c_OB_within l D tA b _ _ (am) (0) (65536)) zd_OB_light_16 zs_OB_97 zq_OB_within rfl rfl ⟨(Nat.le_of_ble_eq_true rfl), (Nat.le_of_ble_eq_true rfl)⟩ (Nat.le_of_ble_eq_true rfl) ⟨(Nat.le_of_ble_eq_true rfl), (Nat.le_of_ble_eq_true rfl)⟩ ?_
    refine zr_if_ne F 24 zd_OB_light_19 (by decide) (fun h2 => ?_) (fun h2 => ?_)
    ·
      refine zr_aload_n F zd_OB_light_24 rfl ?_
      refine zr_get F 0 5 zd_OB_light_25 hf rfl (by decide) zw_493 rfl (by rfl) ?_
      refine zr_get F 8 7 zd_OB_light_28 hs rfl (by decide) zw_307 rfl (by rfl) ?_
      refine zr_iconstv (v := 0) F zd_OB_light_31 (by decide) ?_
      refine zr_iload_n F zd_OB_light_32 rfl ?_
      refine zr_iast F zd_OB_light_33 hl (vp_in_nI (n := 0) (by decide) (by decide)) ?_
      refine zr_norm (zu (f) ((q + 23)) (.inl (tA 0, 4, .inl (upd (gl) ((0 : Int32).toNatClampNeg) (x))))) _ (rfl) rfl ?_
      refine zr_aload_n F zd_OB_light_34 rfl ?_
      refine zr_get F 0 5 zd_OB_light_35 ((zu_n _ (by omega)).trans hf) rfl (by decide) zw_493 rfl (by rfl) ?_
      refine zr_get F 8 7 zd_OB_light_38 ((zu_n _ (by omega)).trans hs) rfl (by decide) zw_307 rfl (by rfl) ?_
      refine zr_iconstv (v := 1) F zd_OB_light_41 (by decide) ?_
      refine zr_iload_n F zd_OB_light_42 rfl ?_
      refine zr_iast F zd_OB_light_43 (zu_s _ _ _) (vp_in_nI (n := 1) (by decide) (by decide)) ?_
      refine zr_norm (zu (f) ((q + 23)) (.inl (tA 0, 4, .inl (upd (upd (gl) ((0 : Int32).toNatClampNeg) (x)) ((1 : Int32).toNatClampNeg) (y))))) _ (zu_zu _ _ _ _) rfl ?_
      refine zr_aload_n F zd_OB_light_44 rfl ?_
      refine zr_get F 0 5 zd_OB_light_45 ((zu_n _ (by omega)).trans hf) rfl (by decide) zw_493 rfl (by rfl) ?_
      refine zr_get F 8 7 zd_OB_light_48 ((zu_n _ (by omega)).trans hs) rfl (by decide) zw_307 rfl (by rfl) ?_
      refine zr_iconstv (v := 2) F zd_OB_light_51 (by decide) ?_
      refine zr_iload_n F zd_OB_light_52 rfl ?_
      refine zr_iast F zd_OB_light_53 (zu_s _ _ _) (vp_in_nI (n := 2) (by decide) (by decide)) ?_
      refine zr_norm (zu (f) ((q + 23)) (.inl (tA 0, 4, .inl (upd (upd (upd (gl) ((0 : Int32).toNatClampNeg) (x)) ((1 : Int32).toNatClampNeg) (y)) ((2 : Int32).toNatClampNeg) (z))))) _ (zu_zu _ _ _ _) rfl ?_
      refine zr_aload_n F zd_OB_light_54 rfl ?_
      refine zr_get F 0 5 zd_OB_light_55 ((zu_n _ (by omega)).trans hf) rfl (by decide) zw_493 rfl (by rfl) ?_
      refine zr_get F 8 7 zd_OB_light_58 ((zu_n _ (by omega)).trans hs) rfl (by decide) zw_307 rfl (by rfl) ?_
      refine zr_iconstv (v := 3) F zd_OB_light_61 (by decide) ?_
      refine zr_iload F zd_OB_light_62 rfl ?_
      refine zr_iast F zd_OB_light_64 (zu_s _ _ _) (vp_in_nI (n := 3) (by decide) (by decide)) ?_
      refine zr_norm (zu (f) ((q + 23)) (.inl (tA 0, 4, .inl (upd (upd (upd (upd (gl) ((0 : Int32).toNatClampNeg) (x)) ((1 : Int32).toNatClampNeg) (y)) ((2 : Int32).toNatClampNeg) (z)) ((3 : Int32).toNatClampNeg) (am))))) _ (zu_zu _ _ _ _) rfl ?_
      refine zr_iconstv (v := 1) F zd_OB_light_65 (by decide) ?_
      exact zr_zret F hr rfl zd_OB_light_66 (Nat.le_of_ble_eq_true rfl) (Nat.le_of_ble_eq_true rfl) ⟨by rw [sp_OB_light, if_neg h1, if_neg h2], by rw [sw_OB_light, if_neg h1, if_neg h2], rfl⟩
    ·
      refine zr_iconstv (v := 0) F zd_OB_light_22 (by decide) ?_
      exact zr_zret F hr rfl zd_OB_light_23 (Nat.le_of_ble_eq_true rfl) (Nat.le_of_ble_eq_true rfl) ⟨by rw [sp_OB_light, if_neg h1, if_pos h2], by rw [sw_OB_light, if_neg h1, if_pos h2], rfl⟩
abbrev zb_MD_light : ByteArray := prog_14_method_15_code
def zy_MD_light : MethodName := ⟨"OrreryBoxModel", "light", "(IIII)Z"⟩
theorem zc_MD_light : Cond.code zy_MD_light zb_MD_light 5 (some .boolean) ∈ gw := gw_t 1981 (by decide +kernel) rfl
theorem zq_MD_light : zy_MD_light.cls ≠ "java/lang/invoke/MethodHandle" ∧ zy_MD_light.cls ≠ "java/lang/invoke/VarHandle" ∧ (parseMethodDescriptor zy_MD_light.desc).map (fun d => d.parameters.length) = some 4 := by decide +kernel
theorem zd_MD_light_0 : decode zb_MD_light 0 = .ok (.aload_n 0, 1) := by decide +kernel
theorem zd_MD_light_1 : decode zb_MD_light 1 = .ok (.iconst 0, 1) := by decide +kernel
theorem zd_MD_light_2 : decode zb_MD_light 2 = .ok (.putfield 80, 3) := by decide +kernel
theorem zd_MD_light_5 : decode zb_MD_light 5 = .ok (.iload_n 1, 1) := by decide +kernel
theorem zd_MD_light_6 : decode zb_MD_light 6 = .ok (.iload_n 2, 1) := by decide +kernel
theorem zd_MD_light_7 : decode zb_MD_light 7 = .ok (.iload_n 3, 1) := by decide +kernel
theorem zd_MD_light_8 : decode zb_MD_light 8 = .ok (.ldc 7, 2) := by decide +kernel
theorem zd_MD_light_10 : decode zb_MD_light 10 = .ok (.invokestatic 135, 3) := by decide +kernel
theorem zd_MD_light_13 : decode zb_MD_light 13 = .ok (.ifCond .eq 15, 3) := by decide +kernel
theorem zd_MD_light_16 : decode zb_MD_light 16 = .ok (.iload 4, 2) := by decide +kernel
theorem zd_MD_light_18 : decode zb_MD_light 18 = .ok (.ifCond .lt 10, 3) := by decide +kernel
theorem zd_MD_light_21 : decode zb_MD_light 21 = .ok (.iload 4, 2) := by decide +kernel
theorem zd_MD_light_23 : decode zb_MD_light 23 = .ok (.ldc 7, 2) := by decide +kernel
theorem zd_MD_light_25 : decode zb_MD_light 25 = .ok (.if_icmp .le 5, 3) := by decide +kernel
theorem zd_MD_light_28 : decode zb_MD_light 28 = .ok (.iconst 0, 1) := by decide +kernel
theorem zd_MD_light_29 : decode zb_MD_light 29 = .ok (.ireturn, 1) := by decide +kernel
theorem zd_MD_light_30 : decode zb_MD_light 30 = .ok (.aload_n 0, 1) := by decide +kernel
theorem zd_MD_light_31 : decode zb_MD_light 31 = .ok (.getfield 17, 3) := by decide +kernel
theorem zd_MD_light_34 : decode zb_MD_light 34 = .ok (.getfield 158, 3) := by decide +kernel
theorem zd_MD_light_37 : decode zb_MD_light 37 = .ok (.iconst 0, 1) := by decide +kernel
theorem zd_MD_light_38 : decode zb_MD_light 38 = .ok (.iload_n 1, 1) := by decide +kernel
theorem zd_MD_light_39 : decode zb_MD_light 39 = .ok (.iastore, 1) := by decide +kernel
theorem zd_MD_light_40 : decode zb_MD_light 40 = .ok (.aload_n 0, 1) := by decide +kernel
theorem zd_MD_light_41 : decode zb_MD_light 41 = .ok (.getfield 17, 3) := by decide +kernel
theorem zd_MD_light_44 : decode zb_MD_light 44 = .ok (.getfield 158, 3) := by decide +kernel
theorem zd_MD_light_47 : decode zb_MD_light 47 = .ok (.iconst 1, 1) := by decide +kernel
theorem zd_MD_light_48 : decode zb_MD_light 48 = .ok (.iload_n 2, 1) := by decide +kernel
theorem zd_MD_light_49 : decode zb_MD_light 49 = .ok (.iastore, 1) := by decide +kernel
theorem zd_MD_light_50 : decode zb_MD_light 50 = .ok (.aload_n 0, 1) := by decide +kernel
theorem zd_MD_light_51 : decode zb_MD_light 51 = .ok (.getfield 17, 3) := by decide +kernel
theorem zd_MD_light_54 : decode zb_MD_light 54 = .ok (.getfield 158, 3) := by decide +kernel
theorem zd_MD_light_57 : decode zb_MD_light 57 = .ok (.iconst 2, 1) := by decide +kernel
theorem zd_MD_light_58 : decode zb_MD_light 58 = .ok (.iload_n 3, 1) := by decide +kernel
theorem zd_MD_light_59 : decode zb_MD_light 59 = .ok (.iastore, 1) := by decide +kernel
theorem zd_MD_light_60 : decode zb_MD_light 60 = .ok (.aload_n 0, 1) := by decide +kernel
theorem zd_MD_light_61 : decode zb_MD_light 61 = .ok (.getfield 17, 3) := by decide +kernel
theorem zd_MD_light_64 : decode zb_MD_light 64 = .ok (.iload 4, 2) := by decide +kernel
theorem zd_MD_light_66 : decode zb_MD_light 66 = .ok (.putfield 161, 3) := by decide +kernel
theorem zd_MD_light_69 : decode zb_MD_light 69 = .ok (.iconst 1, 1) := by decide +kernel
theorem zd_MD_light_70 : decode zb_MD_light 70 = .ok (.ireturn, 1) := by decide +kernel
theorem zw_1962 : (Jvm.Cond.methodLink "OrreryBoxModel" (135 : Nat) ({ cls := "OrreryBoxModel", name := "within", desc := "(IIII)Z" } : Jvm.MethodName)) ∈ gw := gw_t 1962 (by decide +kernel) rfl
theorem zw_1963 : (Jvm.Cond.static ({ cls := "OrreryBoxModel", name := "within", desc := "(IIII)Z" } : Jvm.MethodName)) ∈ gw := gw_t 1963 (by decide +kernel) rfl
theorem zs_MD_135 : zwS "OrreryBoxModel" 135 zy_MD_within zb_MD_within 4 (some .boolean) := ⟨zw_1962, zw_1963, zw_13, zc_MD_within⟩
theorem zw_1413 : (Jvm.Cond.fieldLink "OrreryBoxModel" (158 : Nat) "OrreryBoxModel$Scene" "toward" "[I") ∈ gw := gw_t 1413 (by decide +kernel) rfl
theorem zw_1421 : (Jvm.Cond.fieldLink "OrreryBoxModel" (161 : Nat) "OrreryBoxModel$Scene" "ambient" "I") ∈ gw := gw_t 1421 (by decide +kernel) rfl
def sp_MD_light (x : Int32) (y : Int32) (z : Int32) (am : Int32) (w : Int32) (h : Int32) (tp : Int32) (ti : Int32) (th : Int32) (wk : Int32) (wa : Int32) (bg : Int32) (pk : Int32) (t0 : Int32) (t1 : Int32) (t2 : Int32) (t3 : Int32) (t4 : Int32) (fo : Int32) (am0 : Int32) (gl : Nat → Int32) : Int32 := (if (sp_MD_within (x) (y) (z) (65536)) = 0 then 0 else (if am < 0 then 0 else (if am ≤ 65536 then 1 else 0)))
def sw_MD_light (tA : Nat → ClassId) (b : Nat) (f : zV) (x : Int32) (y : Int32) (z : Int32) (am : Int32) (w : Int32) (h : Int32) (tp : Int32) (ti : Int32) (th : Int32) (wk : Int32) (wa : Int32) (bg : Int32) (pk : Int32) (t0 : Int32) (t1 : Int32) (t2 : Int32) (t3 : Int32) (t4 : Int32) (fo : Int32) (am0 : Int32) (gl : Nat → Int32) : zV := (if (sp_MD_within (x) (y) (z) (65536)) = 0 then (zu (f) 1185 (.inr (1, [.int w, .int h, .ref (b + 1186), .int tp, .ref (b + 1187), .ref (b + 1217), .ref (b + 1247), .ref (b + 1277), .ref (b + 1285), .ref (b + 1278), .int ti, .int 0, .int wk, .int wa, .ref (b + 1281), .int bg, .ref (b + 1282), .ref (b + 1283), .ref (b + 1284), .int pk]))) else (if am < 0 then (zu (f) 1185 (.inr (1, [.int w, .int h, .ref (b + 1186), .int tp, .ref (b + 1187), .ref (b + 1217), .ref (b + 1247), .ref (b + 1277), .ref (b + 1285), .ref (b + 1278), .int ti, .int 0, .int wk, .int wa, .ref (b + 1281), .int bg, .ref (b + 1282), .ref (b + 1283), .ref (b + 1284), .int pk]))) else (if am ≤ 65536 then (zu (zu (zu (f) 1185 (.inr (1, [.int w, .int h, .ref (b + 1186), .int tp, .ref (b + 1187), .ref (b + 1217), .ref (b + 1247), .ref (b + 1277), .ref (b + 1285), .ref (b + 1278), .int ti, .int 0, .int wk, .int wa, .ref (b + 1281), .int bg, .ref (b + 1282), .ref (b + 1283), .ref (b + 1284), .int pk]))) ((1188 + 28)) (.inl (tA 0, 3, .inl (upd (upd (upd (gl) ((0 : Int32).toNatClampNeg) (x)) ((1 : Int32).toNatClampNeg) (y)) ((2 : Int32).toNatClampNeg) (z))))) 1187 (.inr (15, [.int t0, .int t1, .int t2, .int t3, .int t4, .ref (b + 1188), .ref (b + (1188 + 1)), .ref (b + (1188 + 2)), .ref (b + (1188 + 3)), .ref (b + (1188 + 4)), .ref (b + (1188 + 5)), .ref (b + (1188 + 6)), .ref (b + (1188 + 7)), .ref (b + (1188 + 8)), .ref (b + (1188 + 9)), .ref (b + (1188 + 10)), .ref (b + (1188 + 11)), .ref (b + (1188 + 12)), .ref (b + (1188 + 13)), .ref (b + (1188 + 14)), .ref (b + (1188 + 15)), .ref (b + (1188 + 16)), .ref (b + (1188 + 17)), .ref (b + (1188 + 18)), .ref (b + (1188 + 19)), .ref (b + (1188 + 20)), .ref (b + (1188 + 21)), .ref (b + (1188 + 22)), .ref (b + (1188 + 23)), .ref (b + (1188 + 24)), .ref (b + (1188 + 25)), .ref (b + (1188 + 26)), .ref (b + (1188 + 27)), .ref (b + (1188 + 28)), .int fo, .int am]))) else (zu (f) 1185 (.inr (1, [.int w, .int h, .ref (b + 1186), .int tp, .ref (b + 1187), .ref (b + 1217), .ref (b + 1247), .ref (b + 1277), .ref (b + 1285), .ref (b + 1278), .int ti, .int 0, .int wk, .int wa, .ref (b + 1281), .int bg, .ref (b + 1282), .ref (b + 1283), .ref (b + 1284), .int pk]))))))
set_option maxHeartbeats 4000000 in
set_option maxRecDepth 100000 in
theorem c_MD_light (l : Launch) (D : va_G) (tA : Nat → ClassId) (b : Nat) (f : zV) (n : Nat) (x : Int32) (y : Int32) (z : Int32) (am : Int32) (w : Int32) (h : Int32) (tp : Int32) (ti : Int32) (th : Int32) (wk : Int32) (wa : Int32) (bg : Int32) (pk : Int32) (t0 : Int32) (t1 : Int32) (t2 : Int32) (t3 : Int32) (t4 : Int32) (fo : Int32) (am0 : Int32) (gl : Nat → Int32) (hf : f 1185 = some (.inr (1, [.int w, .int h, .ref (b + 1186), .int tp, .ref (b + 1187), .ref (b + 1217), .ref (b + 1247), .ref (b + 1277), .ref (b + 1285), .ref (b + 1278), .int ti, .int th, .int wk, .int wa, .ref (b + 1281), .int bg, .ref (b + 1282), .ref (b + 1283), .ref (b + 1284), .int pk]))) (hs : f 1187 = some (.inr (15, msO b 1188 t0 t1 t2 t3 t4 fo am0))) (hl : f ((1188 + 28)) = some (.inl (tA 0, 3, .inl (gl))))  : zM l D tA b zy_MD_light zb_MD_light 5 (some .boolean) 1 23 0 0 [.ref (b + 1185), .int x, .int y, .int z, .int am] f n (zE (some (.int (sp_MD_light x y z am w h tp ti th wk wa bg pk t0 t1 t2 t3 t4 fo am0 gl))) (sw_MD_light tA b f x y z am w h tp ti th wk wa bg pk t0 t1 t2 t3 t4 fo am0 gl) n) := by
  refine zM_of (own := "OrreryBoxModel") (plainFor_of_name (by decide)) rfl (Nat.le_of_ble_eq_true rfl) (fun p e s m below meth c F hr hin hH => ?_)
  refine zr_aload_n F zd_MD_light_0 rfl ?_
  refine zr_iconstv (v := 0) F zd_MD_light_1 (by decide) ?_
  refine zr_put F 1 11 zd_MD_light_2 hf rfl (by decide) zw_1691 rfl rfl rfl rfl (by exact (Nat.le_of_ble_eq_true rfl)) ?_
  refine zr_norm (zu (f) 1185 (.inr (1, [.int w, .int h, .ref (b + 1186), .int tp, .ref (b + 1187), .ref (b + 1217), .ref (b + 1247), .ref (b + 1277), .ref (b + 1285), .ref (b + 1278), .int ti, .int 0, .int wk, .int wa, .ref (b + 1281), .int bg, .ref (b + 1282), .ref (b + 1283), .ref (b + 1284), .int pk]))) _ (rfl) rfl ?_
  refine zr_iload_n F zd_MD_light_5 rfl ?_
  refine zr_iload_n F zd_MD_light_6 rfl ?_
  refine zr_iload_n F zd_MD_light_7 rfl ?_
  refine zr_ldc F zd_MD_light_8 zw_1308 ?_
  refine zr_callS1 F (c_MD_within l D tA b _ _ (x) (y) (z) (65536)) zd_MD_light_10 zs_MD_135 zq_MD_within rfl rfl ⟨(Nat.le_of_ble_eq_true rfl), (Nat.le_of_ble_eq_true rfl)⟩ (Nat.le_of_ble_eq_true rfl) ⟨(Nat.le_of_ble_eq_true rfl), (Nat.le_of_ble_eq_true rfl)⟩ ?_
  refine zr_if_eq F 28 zd_MD_light_13 (by decide) (fun h1 => ?_) (fun h1 => ?_)
  ·
    refine zr_iconstv (v := 0) F zd_MD_light_28 (by decide) ?_
    exact zr_zret F hr rfl zd_MD_light_29 (Nat.le_of_ble_eq_true rfl) (Nat.le_of_ble_eq_true rfl) ⟨by rw [sp_MD_light, if_pos h1], by rw [sw_MD_light, if_pos h1], rfl⟩
  ·
    refine zr_iload F zd_MD_light_16 rfl ?_
    refine zr_if_lt F 28 zd_MD_light_18 (by decide) (fun h2 => ?_) (fun h2 => ?_)
    ·
      refine zr_iconstv (v := 0) F zd_MD_light_28 (by decide) ?_
      exact zr_zret F hr rfl zd_MD_light_29 (Nat.le_of_ble_eq_true rfl) (Nat.le_of_ble_eq_true rfl) ⟨by rw [sp_MD_light, if_neg h1, if_pos h2], by rw [sw_MD_light, if_neg h1, if_pos h2], rfl⟩
    ·
      refine zr_iload F zd_MD_light_21 rfl ?_
      refine zr_ldc F zd_MD_light_23 zw_1308 ?_
      refine zr_icmp_le F 30 zd_MD_light_25 (by decide) (fun h3 => ?_) (fun h3 => ?_)
      ·
        refine zr_aload_n F zd_MD_light_30 rfl ?_
        refine zr_get F 1 4 zd_MD_light_31 (zu_s _ _ _) rfl (by decide) zw_1684 rfl (by rfl) ?_
        refine zr_get F 15 33 zd_MD_light_34 ((zu_n _ (by omega)).trans hs) rfl (by decide) zw_1413 rfl (by rfl) ?_
        refine zr_iconstv (v := 0) F zd_MD_light_37 (by decide) ?_
        refine zr_iload_n F zd_MD_light_38 rfl ?_
        refine zr_iast F zd_MD_light_39 ((zu_n _ (by omega)).trans hl) (vp_in_nI (n := 0) (by decide) (by decide)) ?_
        refine zr_norm (zu (zu (f) 1185 (.inr (1, [.int w, .int h, .ref (b + 1186), .int tp, .ref (b + 1187), .ref (b + 1217), .ref (b + 1247), .ref (b + 1277), .ref (b + 1285), .ref (b + 1278), .int ti, .int 0, .int wk, .int wa, .ref (b + 1281), .int bg, .ref (b + 1282), .ref (b + 1283), .ref (b + 1284), .int pk]))) ((1188 + 28)) (.inl (tA 0, 3, .inl (upd (gl) ((0 : Int32).toNatClampNeg) (x))))) _ (rfl) rfl ?_
        refine zr_aload_n F zd_MD_light_40 rfl ?_
        refine zr_get F 1 4 zd_MD_light_41 ((zu_n _ (by omega)).trans (zu_s _ _ _)) rfl (by decide) zw_1684 rfl (by rfl) ?_
        refine zr_get F 15 33 zd_MD_light_44 ((zu_n _ (by omega)).trans ((zu_n _ (by omega)).trans hs)) rfl (by decide) zw_1413 rfl (by rfl) ?_
        refine zr_iconstv (v := 1) F zd_MD_light_47 (by decide) ?_
        refine zr_iload_n F zd_MD_light_48 rfl ?_
        refine zr_iast F zd_MD_light_49 (zu_s _ _ _) (vp_in_nI (n := 1) (by decide) (by decide)) ?_
        refine zr_norm (zu (zu (f) 1185 (.inr (1, [.int w, .int h, .ref (b + 1186), .int tp, .ref (b + 1187), .ref (b + 1217), .ref (b + 1247), .ref (b + 1277), .ref (b + 1285), .ref (b + 1278), .int ti, .int 0, .int wk, .int wa, .ref (b + 1281), .int bg, .ref (b + 1282), .ref (b + 1283), .ref (b + 1284), .int pk]))) ((1188 + 28)) (.inl (tA 0, 3, .inl (upd (upd (gl) ((0 : Int32).toNatClampNeg) (x)) ((1 : Int32).toNatClampNeg) (y))))) _ (zu_zu _ _ _ _) rfl ?_
        refine zr_aload_n F zd_MD_light_50 rfl ?_
        refine zr_get F 1 4 zd_MD_light_51 ((zu_n _ (by omega)).trans (zu_s _ _ _)) rfl (by decide) zw_1684 rfl (by rfl) ?_
        refine zr_get F 15 33 zd_MD_light_54 ((zu_n _ (by omega)).trans ((zu_n _ (by omega)).trans hs)) rfl (by decide) zw_1413 rfl (by rfl) ?_
        refine zr_iconstv (v := 2) F zd_MD_light_57 (by decide) ?_
        refine zr_iload_n F zd_MD_light_58 rfl ?_
        refine zr_iast F zd_MD_light_59 (zu_s _ _ _) (vp_in_nI (n := 2) (by decide) (by decide)) ?_
        refine zr_norm (zu (zu (f) 1185 (.inr (1, [.int w, .int h, .ref (b + 1186), .int tp, .ref (b + 1187), .ref (b + 1217), .ref (b + 1247), .ref (b + 1277), .ref (b + 1285), .ref (b + 1278), .int ti, .int 0, .int wk, .int wa, .ref (b + 1281), .int bg, .ref (b + 1282), .ref (b + 1283), .ref (b + 1284), .int pk]))) ((1188 + 28)) (.inl (tA 0, 3, .inl (upd (upd (upd (gl) ((0 : Int32).toNatClampNeg) (x)) ((1 : Int32).toNatClampNeg) (y)) ((2 : Int32).toNatClampNeg) (z))))) _ (zu_zu _ _ _ _) rfl ?_
        refine zr_aload_n F zd_MD_light_60 rfl ?_
        refine zr_get F 1 4 zd_MD_light_61 ((zu_n _ (by omega)).trans (zu_s _ _ _)) rfl (by decide) zw_1684 rfl (by rfl) ?_
        refine zr_iload F zd_MD_light_64 rfl ?_
        refine zr_put F 15 35 zd_MD_light_66 ((zu_n _ (by omega)).trans ((zu_n _ (by omega)).trans hs)) rfl (by decide) zw_1421 rfl rfl rfl rfl (by exact (Nat.le_of_ble_eq_true rfl)) ?_
        refine zr_norm (zu (zu (zu (f) 1185 (.inr (1, [.int w, .int h, .ref (b + 1186), .int tp, .ref (b + 1187), .ref (b + 1217), .ref (b + 1247), .ref (b + 1277), .ref (b + 1285), .ref (b + 1278), .int ti, .int 0, .int wk, .int wa, .ref (b + 1281), .int bg, .ref (b + 1282), .ref (b + 1283), .ref (b + 1284), .int pk]))) ((1188 + 28)) (.inl (tA 0, 3, .inl (upd (upd (upd (gl) ((0 : Int32).toNatClampNeg) (x)) ((1 : Int32).toNatClampNeg) (y)) ((2 : Int32).toNatClampNeg) (z))))) 1187 (.inr (15, [.int t0, .int t1, .int t2, .int t3, .int t4, .ref (b + 1188), .ref (b + (1188 + 1)), .ref (b + (1188 + 2)), .ref (b + (1188 + 3)), .ref (b + (1188 + 4)), .ref (b + (1188 + 5)), .ref (b + (1188 + 6)), .ref (b + (1188 + 7)), .ref (b + (1188 + 8)), .ref (b + (1188 + 9)), .ref (b + (1188 + 10)), .ref (b + (1188 + 11)), .ref (b + (1188 + 12)), .ref (b + (1188 + 13)), .ref (b + (1188 + 14)), .ref (b + (1188 + 15)), .ref (b + (1188 + 16)), .ref (b + (1188 + 17)), .ref (b + (1188 + 18)), .ref (b + (1188 + 19)), .ref (b + (1188 + 20)), .ref (b + (1188 + 21)), .ref (b + (1188 + 22)), .ref (b + (1188 + 23)), .ref (b + (1188 + 24)), .ref (b + (1188 + 25)), .ref (b + (1188 + 26)), .ref (b + (1188 + 27)), .ref (b + (1188 + 28)), .int fo, .int am]))) _ (rfl) rfl ?_
        refine zr_iconstv (v := 1) F zd_MD_light_69 (by decide) ?_
        exact zr_zret F hr rfl zd_MD_light_70 (Nat.le_of_ble_eq_true rfl) (Nat.le_of_ble_eq_true rfl) ⟨by rw [sp_MD_light, if_neg h1, if_neg h2, if_pos h3], by rw [sw_MD_light, if_neg h1, if_neg h2, if_pos h3], rfl⟩
      ·
        refine zr_iconstv (v := 0) F zd_MD_light_28 (by decide) ?_
        exact zr_zret F hr rfl zd_MD_light_29 (Nat.le_of_ble_eq_true rfl) (Nat.le_of_ble_eq_true rfl) ⟨by rw [sp_MD_light, if_neg h1, if_neg h2, if_neg h3], by rw [sw_MD_light, if_neg h1, if_neg h2, if_neg h3], rfl⟩
abbrev zb_MD_background : ByteArray := prog_14_method_17_code
def zy_MD_background : MethodName := ⟨"OrreryBoxModel", "background", "(III)Z"⟩
theorem zc_MD_background : Cond.code zy_MD_background zb_MD_background 4 (some .boolean) ∈ gw := gw_t 1985 (by decide +kernel) rfl
theorem zq_MD_background : zy_MD_background.cls ≠ "java/lang/invoke/MethodHandle" ∧ zy_MD_background.cls ≠ "java/lang/invoke/VarHandle" ∧ (parseMethodDescriptor zy_MD_background.desc).map (fun d => d.parameters.length) = some 3 := by decide +kernel
theorem zd_MD_background_0 : decode zb_MD_background 0 = .ok (.aload_n 0, 1) := by decide +kernel
theorem zd_MD_background_1 : decode zb_MD_background 1 = .ok (.iconst 0, 1) := by decide +kernel
theorem zd_MD_background_2 : decode zb_MD_background 2 = .ok (.putfield 80, 3) := by decide +kernel
theorem zd_MD_background_5 : decode zb_MD_background 5 = .ok (.iload_n 1, 1) := by decide +kernel
theorem zd_MD_background_6 : decode zb_MD_background 6 = .ok (.invokestatic 164, 3) := by decide +kernel
theorem zd_MD_background_9 : decode zb_MD_background 9 = .ok (.ifCond .eq 17, 3) := by decide +kernel
theorem zd_MD_background_12 : decode zb_MD_background 12 = .ok (.iload_n 2, 1) := by decide +kernel
theorem zd_MD_background_13 : decode zb_MD_background 13 = .ok (.invokestatic 164, 3) := by decide +kernel
theorem zd_MD_background_16 : decode zb_MD_background 16 = .ok (.ifCond .eq 10, 3) := by decide +kernel
theorem zd_MD_background_19 : decode zb_MD_background 19 = .ok (.iload_n 3, 1) := by decide +kernel
theorem zd_MD_background_20 : decode zb_MD_background 20 = .ok (.invokestatic 164, 3) := by decide +kernel
theorem zd_MD_background_23 : decode zb_MD_background 23 = .ok (.ifCond .ne 5, 3) := by decide +kernel
theorem zd_MD_background_26 : decode zb_MD_background 26 = .ok (.iconst 0, 1) := by decide +kernel
theorem zd_MD_background_27 : decode zb_MD_background 27 = .ok (.ireturn, 1) := by decide +kernel
theorem zd_MD_background_28 : decode zb_MD_background 28 = .ok (.aload_n 0, 1) := by decide +kernel
theorem zd_MD_background_29 : decode zb_MD_background 29 = .ok (.getfield 43, 3) := by decide +kernel
theorem zd_MD_background_32 : decode zb_MD_background 32 = .ok (.iconst 0, 1) := by decide +kernel
theorem zd_MD_background_33 : decode zb_MD_background 33 = .ok (.iload_n 1, 1) := by decide +kernel
theorem zd_MD_background_34 : decode zb_MD_background 34 = .ok (.iastore, 1) := by decide +kernel
theorem zd_MD_background_35 : decode zb_MD_background 35 = .ok (.aload_n 0, 1) := by decide +kernel
theorem zd_MD_background_36 : decode zb_MD_background 36 = .ok (.getfield 43, 3) := by decide +kernel
theorem zd_MD_background_39 : decode zb_MD_background 39 = .ok (.iconst 1, 1) := by decide +kernel
theorem zd_MD_background_40 : decode zb_MD_background 40 = .ok (.iload_n 2, 1) := by decide +kernel
theorem zd_MD_background_41 : decode zb_MD_background 41 = .ok (.iastore, 1) := by decide +kernel
theorem zd_MD_background_42 : decode zb_MD_background 42 = .ok (.aload_n 0, 1) := by decide +kernel
theorem zd_MD_background_43 : decode zb_MD_background 43 = .ok (.getfield 43, 3) := by decide +kernel
theorem zd_MD_background_46 : decode zb_MD_background 46 = .ok (.iconst 2, 1) := by decide +kernel
theorem zd_MD_background_47 : decode zb_MD_background 47 = .ok (.iload_n 3, 1) := by decide +kernel
theorem zd_MD_background_48 : decode zb_MD_background 48 = .ok (.iastore, 1) := by decide +kernel
theorem zd_MD_background_49 : decode zb_MD_background 49 = .ok (.iconst 1, 1) := by decide +kernel
theorem zd_MD_background_50 : decode zb_MD_background 50 = .ok (.ireturn, 1) := by decide +kernel
theorem zw_1986 : (Jvm.Cond.methodLink "OrreryBoxModel" (164 : Nat) ({ cls := "OrreryBoxModel", name := "isByte", desc := "(I)Z" } : Jvm.MethodName)) ∈ gw := gw_t 1986 (by decide +kernel) rfl
theorem zw_1987 : (Jvm.Cond.static ({ cls := "OrreryBoxModel", name := "isByte", desc := "(I)Z" } : Jvm.MethodName)) ∈ gw := gw_t 1987 (by decide +kernel) rfl
theorem zs_MD_164 : zwS "OrreryBoxModel" 164 zy_MD_isByte zb_MD_isByte 1 (some .boolean) := ⟨zw_1986, zw_1987, zw_13, zc_MD_isByte⟩
def sp_MD_background (x : Int32) (y : Int32) (z : Int32) (w : Int32) (h : Int32) (tp : Int32) (ti : Int32) (th : Int32) (wk : Int32) (wa : Int32) (bg : Int32) (pk : Int32) (gg : Nat → Int32) : Int32 := (if (sp_MD_isByte (x)) = 0 then 0 else (if (sp_MD_isByte (y)) = 0 then 0 else (if (sp_MD_isByte (z)) = 0 then 0 else 1)))
def sw_MD_background (tA : Nat → ClassId) (b : Nat) (f : zV) (x : Int32) (y : Int32) (z : Int32) (w : Int32) (h : Int32) (tp : Int32) (ti : Int32) (th : Int32) (wk : Int32) (wa : Int32) (bg : Int32) (pk : Int32) (gg : Nat → Int32) : zV := (if (sp_MD_isByte (x)) = 0 then (zu (f) 1185 (.inr (1, [.int w, .int h, .ref (b + 1186), .int tp, .ref (b + 1187), .ref (b + 1217), .ref (b + 1247), .ref (b + 1277), .ref (b + 1285), .ref (b + 1278), .int ti, .int 0, .int wk, .int wa, .ref (b + 1281), .int bg, .ref (b + 1282), .ref (b + 1283), .ref (b + 1284), .int pk]))) else (if (sp_MD_isByte (y)) = 0 then (zu (f) 1185 (.inr (1, [.int w, .int h, .ref (b + 1186), .int tp, .ref (b + 1187), .ref (b + 1217), .ref (b + 1247), .ref (b + 1277), .ref (b + 1285), .ref (b + 1278), .int ti, .int 0, .int wk, .int wa, .ref (b + 1281), .int bg, .ref (b + 1282), .ref (b + 1283), .ref (b + 1284), .int pk]))) else (if (sp_MD_isByte (z)) = 0 then (zu (f) 1185 (.inr (1, [.int w, .int h, .ref (b + 1186), .int tp, .ref (b + 1187), .ref (b + 1217), .ref (b + 1247), .ref (b + 1277), .ref (b + 1285), .ref (b + 1278), .int ti, .int 0, .int wk, .int wa, .ref (b + 1281), .int bg, .ref (b + 1282), .ref (b + 1283), .ref (b + 1284), .int pk]))) else (zu (zu (f) 1185 (.inr (1, [.int w, .int h, .ref (b + 1186), .int tp, .ref (b + 1187), .ref (b + 1217), .ref (b + 1247), .ref (b + 1277), .ref (b + 1285), .ref (b + 1278), .int ti, .int 0, .int wk, .int wa, .ref (b + 1281), .int bg, .ref (b + 1282), .ref (b + 1283), .ref (b + 1284), .int pk]))) 1281 (.inl (tA 0, 3, .inl (upd (upd (upd (gg) ((0 : Int32).toNatClampNeg) (x)) ((1 : Int32).toNatClampNeg) (y)) ((2 : Int32).toNatClampNeg) (z))))))))
set_option maxHeartbeats 4000000 in
set_option maxRecDepth 100000 in
theorem c_MD_background (l : Launch) (D : va_G) (tA : Nat → ClassId) (b : Nat) (f : zV) (n : Nat) (x : Int32) (y : Int32) (z : Int32) (w : Int32) (h : Int32) (tp : Int32) (ti : Int32) (th : Int32) (wk : Int32) (wa : Int32) (bg : Int32) (pk : Int32) (gg : Nat → Int32) (hf : f 1185 = some (.inr (1, [.int w, .int h, .ref (b + 1186), .int tp, .ref (b + 1187), .ref (b + 1217), .ref (b + 1247), .ref (b + 1277), .ref (b + 1285), .ref (b + 1278), .int ti, .int th, .int wk, .int wa, .ref (b + 1281), .int bg, .ref (b + 1282), .ref (b + 1283), .ref (b + 1284), .int pk]))) (hg : f 1281 = some (.inl (tA 0, 3, .inl (gg))))  : zM l D tA b zy_MD_background zb_MD_background 4 (some .boolean) 1 20 0 0 [.ref (b + 1185), .int x, .int y, .int z] f n (zE (some (.int (sp_MD_background x y z w h tp ti th wk wa bg pk gg))) (sw_MD_background tA b f x y z w h tp ti th wk wa bg pk gg) n) := by
  refine zM_of (own := "OrreryBoxModel") (plainFor_of_name (by decide)) rfl (Nat.le_of_ble_eq_true rfl) (fun p e s m below meth c F hr hin hH => ?_)
  refine zr_aload_n F zd_MD_background_0 rfl ?_
  refine zr_iconstv (v := 0) F zd_MD_background_1 (by decide) ?_
  refine zr_put F 1 11 zd_MD_background_2 hf rfl (by decide) zw_1691 rfl rfl rfl rfl (by exact (Nat.le_of_ble_eq_true rfl)) ?_
  refine zr_norm (zu (f) 1185 (.inr (1, [.int w, .int h, .ref (b + 1186), .int tp, .ref (b + 1187), .ref (b + 1217), .ref (b + 1247), .ref (b + 1277), .ref (b + 1285), .ref (b + 1278), .int ti, .int 0, .int wk, .int wa, .ref (b + 1281), .int bg, .ref (b + 1282), .ref (b + 1283), .ref (b + 1284), .int pk]))) _ (rfl) rfl ?_
  refine zr_iload_n F zd_MD_background_5 rfl ?_
  refine zr_callS1 F (c_MD_isByte l D tA b _ _ (x)) zd_MD_background_6 zs_MD_164 zq_MD_isByte rfl rfl ⟨(Nat.le_of_ble_eq_true rfl), (Nat.le_of_ble_eq_true rfl)⟩ (Nat.le_of_ble_eq_true rfl) ⟨(Nat.le_of_ble_eq_true rfl), (Nat.le_of_ble_eq_true rfl)⟩ ?_
  refine zr_if_eq F 26 zd_MD_background_9 (by decide) (fun h1 => ?_) (fun h1 => ?_)
  ·
    refine zr_iconstv (v := 0) F zd_MD_background_26 (by decide) ?_
    exact zr_zret F hr rfl zd_MD_background_27 (Nat.le_of_ble_eq_true rfl) (Nat.le_of_ble_eq_true rfl) ⟨by rw [sp_MD_background, if_pos h1], by rw [sw_MD_background, if_pos h1], rfl⟩
  ·
    refine zr_iload_n F zd_MD_background_12 rfl ?_
    refine zr_callS1 F (c_MD_isByte l D tA b _ _ (y)) zd_MD_background_13 zs_MD_164 zq_MD_isByte rfl rfl ⟨(Nat.le_of_ble_eq_true rfl), (Nat.le_of_ble_eq_true rfl)⟩ (Nat.le_of_ble_eq_true rfl) ⟨(Nat.le_of_ble_eq_true rfl), (Nat.le_of_ble_eq_true rfl)⟩ ?_
    refine zr_if_eq F 26 zd_MD_background_16 (by decide) (fun h2 => ?_) (fun h2 => ?_)
    ·
      refine zr_iconstv (v := 0) F zd_MD_background_26 (by decide) ?_
      exact zr_zret F hr rfl zd_MD_background_27 (Nat.le_of_ble_eq_true rfl) (Nat.le_of_ble_eq_true rfl) ⟨by rw [sp_MD_background, if_neg h1, if_pos h2], by rw [sw_MD_background, if_neg h1, if_pos h2], rfl⟩
    ·
      refine zr_iload_n F zd_MD_background_19 rfl ?_
      refine zr_callS1 F (c_MD_isByte l D tA b _ _ (z)) zd_MD_background_20 zs_MD_164 zq_MD_isByte rfl rfl ⟨(Nat.le_of_ble_eq_true rfl), (Nat.le_of_ble_eq_true rfl)⟩ (Nat.le_of_ble_eq_true rfl) ⟨(Nat.le_of_ble_eq_true rfl), (Nat.le_of_ble_eq_true rfl)⟩ ?_
      refine zr_if_ne F 28 zd_MD_background_23 (by decide) (fun h3 => ?_) (fun h3 => ?_)
      ·
        refine zr_aload_n F zd_MD_background_28 rfl ?_
        refine zr_get F 1 14 zd_MD_background_29 (zu_s _ _ _) rfl (by decide) zw_1694 rfl (by rfl) ?_
        refine zr_iconstv (v := 0) F zd_MD_background_32 (by decide) ?_
        refine zr_iload_n F zd_MD_background_33 rfl ?_
        refine zr_iast F zd_MD_background_34 ((zu_n _ (by omega)).trans hg) (vp_in_nI (n := 0) (by decide) (by decide)) ?_
        refine zr_norm (zu (zu (f) 1185 (.inr (1, [.int w, .int h, .ref (b + 1186), .int tp, .ref (b + 1187), .ref (b + 1217), .ref (b + 1247), .ref (b + 1277), .ref (b + 1285), .ref (b + 1278), .int ti, .int 0, .int wk, .int wa, .ref (b + 1281), .int bg, .ref (b + 1282), .ref (b + 1283), .ref (b + 1284), .int pk]))) 1281 (.inl (tA 0, 3, .inl (upd (gg) ((0 : Int32).toNatClampNeg) (x))))) _ (rfl) rfl ?_
        refine zr_aload_n F zd_MD_background_35 rfl ?_
        refine zr_get F 1 14 zd_MD_background_36 ((zu_n _ (by omega)).trans (zu_s _ _ _)) rfl (by decide) zw_1694 rfl (by rfl) ?_
        refine zr_iconstv (v := 1) F zd_MD_background_39 (by decide) ?_
        refine zr_iload_n F zd_MD_background_40 rfl ?_
        refine zr_iast F zd_MD_background_41 (zu_s _ _ _) (vp_in_nI (n := 1) (by decide) (by decide)) ?_
        refine zr_norm (zu (zu (f) 1185 (.inr (1, [.int w, .int h, .ref (b + 1186), .int tp, .ref (b + 1187), .ref (b + 1217), .ref (b + 1247), .ref (b + 1277), .ref (b + 1285), .ref (b + 1278), .int ti, .int 0, .int wk, .int wa, .ref (b + 1281), .int bg, .ref (b + 1282), .ref (b + 1283), .ref (b + 1284), .int pk]))) 1281 (.inl (tA 0, 3, .inl (upd (upd (gg) ((0 : Int32).toNatClampNeg) (x)) ((1 : Int32).toNatClampNeg) (y))))) _ (zu_zu _ _ _ _) rfl ?_
        refine zr_aload_n F zd_MD_background_42 rfl ?_
        refine zr_get F 1 14 zd_MD_background_43 ((zu_n _ (by omega)).trans (zu_s _ _ _)) rfl (by decide) zw_1694 rfl (by rfl) ?_
        refine zr_iconstv (v := 2) F zd_MD_background_46 (by decide) ?_
        refine zr_iload_n F zd_MD_background_47 rfl ?_
        refine zr_iast F zd_MD_background_48 (zu_s _ _ _) (vp_in_nI (n := 2) (by decide) (by decide)) ?_
        refine zr_norm (zu (zu (f) 1185 (.inr (1, [.int w, .int h, .ref (b + 1186), .int tp, .ref (b + 1187), .ref (b + 1217), .ref (b + 1247), .ref (b + 1277), .ref (b + 1285), .ref (b + 1278), .int ti, .int 0, .int wk, .int wa, .ref (b + 1281), .int bg, .ref (b + 1282), .ref (b + 1283), .ref (b + 1284), .int pk]))) 1281 (.inl (tA 0, 3, .inl (upd (upd (upd (gg) ((0 : Int32).toNatClampNeg) (x)) ((1 : Int32).toNatClampNeg) (y)) ((2 : Int32).toNatClampNeg) (z))))) _ (zu_zu _ _ _ _) rfl ?_
        refine zr_iconstv (v := 1) F zd_MD_background_49 (by decide) ?_
        exact zr_zret F hr rfl zd_MD_background_50 (Nat.le_of_ble_eq_true rfl) (Nat.le_of_ble_eq_true rfl) ⟨by rw [sp_MD_background, if_neg h1, if_neg h2, if_neg h3], by rw [sw_MD_background, if_neg h1, if_neg h2, if_neg h3], rfl⟩
      ·
        refine zr_iconstv (v := 0) F zd_MD_background_26 (by decide) ?_
        exact zr_zret F hr rfl zd_MD_background_27 (Nat.le_of_ble_eq_true rfl) (Nat.le_of_ble_eq_true rfl) ⟨by rw [sp_MD_background, if_neg h1, if_neg h2, if_pos h3], by rw [sw_MD_background, if_neg h1, if_neg h2, if_pos h3], rfl⟩
abbrev zb_MD_camera : ByteArray := prog_14_method_14_code
def zy_MD_camera : MethodName := ⟨"OrreryBoxModel", "camera", "(IIII)Z"⟩
theorem zc_MD_camera : Cond.code zy_MD_camera zb_MD_camera 6 (some .boolean) ∈ gw := gw_t 1977 (by decide +kernel) rfl
theorem zq_MD_camera : zy_MD_camera.cls ≠ "java/lang/invoke/MethodHandle" ∧ zy_MD_camera.cls ≠ "java/lang/invoke/VarHandle" ∧ (parseMethodDescriptor zy_MD_camera.desc).map (fun d => d.parameters.length) = some 4 := by decide +kernel
theorem zd_MD_camera_0 : decode zb_MD_camera 0 = .ok (.aload_n 0, 1) := by decide +kernel
theorem zd_MD_camera_1 : decode zb_MD_camera 1 = .ok (.iconst 0, 1) := by decide +kernel
theorem zd_MD_camera_2 : decode zb_MD_camera 2 = .ok (.putfield 80, 3) := by decide +kernel
theorem zd_MD_camera_5 : decode zb_MD_camera 5 = .ok (.iload_n 1, 1) := by decide +kernel
theorem zd_MD_camera_6 : decode zb_MD_camera 6 = .ok (.ifCond .lt 8, 3) := by decide +kernel
theorem zd_MD_camera_9 : decode zb_MD_camera 9 = .ok (.iload_n 1, 1) := by decide +kernel
theorem zd_MD_camera_10 : decode zb_MD_camera 10 = .ok (.iconst 2, 1) := by decide +kernel
theorem zd_MD_camera_11 : decode zb_MD_camera 11 = .ok (.if_icmp .le 5, 3) := by decide +kernel
theorem zd_MD_camera_14 : decode zb_MD_camera 14 = .ok (.iconst 0, 1) := by decide +kernel
theorem zd_MD_camera_15 : decode zb_MD_camera 15 = .ok (.ireturn, 1) := by decide +kernel
theorem zd_MD_camera_16 : decode zb_MD_camera 16 = .ok (.iload_n 1, 1) := by decide +kernel
theorem zd_MD_camera_17 : decode zb_MD_camera 17 = .ok (.iconst 2, 1) := by decide +kernel
theorem zd_MD_camera_18 : decode zb_MD_camera 18 = .ok (.if_icmp .ne 28, 3) := by decide +kernel
theorem zd_MD_camera_21 : decode zb_MD_camera 21 = .ok (.iload_n 2, 1) := by decide +kernel
theorem zd_MD_camera_22 : decode zb_MD_camera 22 = .ok (.bipush 8, 2) := by decide +kernel
theorem zd_MD_camera_24 : decode zb_MD_camera 24 = .ok (.if_icmp .lt 10, 3) := by decide +kernel
theorem zd_MD_camera_27 : decode zb_MD_camera 27 = .ok (.iload_n 2, 1) := by decide +kernel
theorem zd_MD_camera_28 : decode zb_MD_camera 28 = .ok (.sipush 512, 3) := by decide +kernel
theorem zd_MD_camera_31 : decode zb_MD_camera 31 = .ok (.if_icmp .le 5, 3) := by decide +kernel
theorem zd_MD_camera_34 : decode zb_MD_camera 34 = .ok (.iconst 0, 1) := by decide +kernel
theorem zd_MD_camera_35 : decode zb_MD_camera 35 = .ok (.ireturn, 1) := by decide +kernel
theorem zd_MD_camera_36 : decode zb_MD_camera 36 = .ok (.aload_n 0, 1) := by decide +kernel
theorem zd_MD_camera_37 : decode zb_MD_camera 37 = .ok (.getfield 17, 3) := by decide +kernel
theorem zd_MD_camera_40 : decode zb_MD_camera 40 = .ok (.iload_n 2, 1) := by decide +kernel
theorem zd_MD_camera_41 : decode zb_MD_camera 41 = .ok (.putfield 149, 3) := by decide +kernel
theorem zd_MD_camera_44 : decode zb_MD_camera 44 = .ok (.iconst 1, 1) := by decide +kernel
theorem zd_MD_camera_45 : decode zb_MD_camera 45 = .ok (.ireturn, 1) := by decide +kernel
theorem zd_MD_camera_46 : decode zb_MD_camera 46 = .ok (.iload_n 2, 1) := by decide +kernel
theorem zd_MD_camera_47 : decode zb_MD_camera 47 = .ok (.iload_n 3, 1) := by decide +kernel
theorem zd_MD_camera_48 : decode zb_MD_camera 48 = .ok (.iload 4, 2) := by decide +kernel
theorem zd_MD_camera_50 : decode zb_MD_camera 50 = .ok (.iload_n 1, 1) := by decide +kernel
theorem zd_MD_camera_51 : decode zb_MD_camera 51 = .ok (.ifCond .ne 8, 3) := by decide +kernel
theorem zd_MD_camera_54 : decode zb_MD_camera 54 = .ok (.ldc 133, 2) := by decide +kernel
theorem zd_MD_camera_56 : decode zb_MD_camera 56 = .ok (.goto 5, 3) := by decide +kernel
theorem zd_MD_camera_59 : decode zb_MD_camera 59 = .ok (.ldc 134, 2) := by decide +kernel
theorem zd_MD_camera_61 : decode zb_MD_camera 61 = .ok (.invokestatic 135, 3) := by decide +kernel
theorem zd_MD_camera_64 : decode zb_MD_camera 64 = .ok (.ifCond .ne 5, 3) := by decide +kernel
theorem zd_MD_camera_67 : decode zb_MD_camera 67 = .ok (.iconst 0, 1) := by decide +kernel
theorem zd_MD_camera_68 : decode zb_MD_camera 68 = .ok (.ireturn, 1) := by decide +kernel
theorem zd_MD_camera_69 : decode zb_MD_camera 69 = .ok (.iload_n 1, 1) := by decide +kernel
theorem zd_MD_camera_70 : decode zb_MD_camera 70 = .ok (.ifCond .ne 13, 3) := by decide +kernel
theorem zd_MD_camera_73 : decode zb_MD_camera 73 = .ok (.aload_n 0, 1) := by decide +kernel
theorem zd_MD_camera_74 : decode zb_MD_camera 74 = .ok (.getfield 17, 3) := by decide +kernel
theorem zd_MD_camera_77 : decode zb_MD_camera 77 = .ok (.getfield 152, 3) := by decide +kernel
theorem zd_MD_camera_80 : decode zb_MD_camera 80 = .ok (.goto 10, 3) := by decide +kernel
theorem zd_MD_camera_83 : decode zb_MD_camera 83 = .ok (.aload_n 0, 1) := by decide +kernel
theorem zd_MD_camera_84 : decode zb_MD_camera 84 = .ok (.getfield 17, 3) := by decide +kernel
theorem zd_MD_camera_87 : decode zb_MD_camera 87 = .ok (.getfield 155, 3) := by decide +kernel
theorem zd_MD_camera_90 : decode zb_MD_camera 90 = .ok (.astore 5, 2) := by decide +kernel
theorem zd_MD_camera_92 : decode zb_MD_camera 92 = .ok (.aload 5, 2) := by decide +kernel
theorem zd_MD_camera_94 : decode zb_MD_camera 94 = .ok (.iconst 0, 1) := by decide +kernel
theorem zd_MD_camera_95 : decode zb_MD_camera 95 = .ok (.iload_n 2, 1) := by decide +kernel
theorem zd_MD_camera_96 : decode zb_MD_camera 96 = .ok (.iastore, 1) := by decide +kernel
theorem zd_MD_camera_97 : decode zb_MD_camera 97 = .ok (.aload 5, 2) := by decide +kernel
theorem zd_MD_camera_99 : decode zb_MD_camera 99 = .ok (.iconst 1, 1) := by decide +kernel
theorem zd_MD_camera_100 : decode zb_MD_camera 100 = .ok (.iload_n 3, 1) := by decide +kernel
theorem zd_MD_camera_101 : decode zb_MD_camera 101 = .ok (.iastore, 1) := by decide +kernel
theorem zd_MD_camera_102 : decode zb_MD_camera 102 = .ok (.aload 5, 2) := by decide +kernel
theorem zd_MD_camera_104 : decode zb_MD_camera 104 = .ok (.iconst 2, 1) := by decide +kernel
theorem zd_MD_camera_105 : decode zb_MD_camera 105 = .ok (.iload 4, 2) := by decide +kernel
theorem zd_MD_camera_107 : decode zb_MD_camera 107 = .ok (.iastore, 1) := by decide +kernel
theorem zd_MD_camera_108 : decode zb_MD_camera 108 = .ok (.iconst 1, 1) := by decide +kernel
theorem zd_MD_camera_109 : decode zb_MD_camera 109 = .ok (.ireturn, 1) := by decide +kernel
theorem zw_1961 : (Jvm.Cond.constant "OrreryBoxModel" (134 : Nat) (1048576 : Int32)) ∈ gw := gw_t 1961 (by decide +kernel) rfl
theorem zw_1410 : (Jvm.Cond.fieldLink "OrreryBoxModel" (155 : Nat) "OrreryBoxModel$Scene" "cameraTurn" "[I") ∈ gw := gw_t 1410 (by decide +kernel) rfl
theorem zw_1406 : (Jvm.Cond.fieldLink "OrreryBoxModel" (152 : Nat) "OrreryBoxModel$Scene" "cameraMove" "[I") ∈ gw := gw_t 1406 (by decide +kernel) rfl
theorem zw_1960 : (Jvm.Cond.constant "OrreryBoxModel" (133 : Nat) (4194304 : Int32)) ∈ gw := gw_t 1960 (by decide +kernel) rfl
theorem zw_1417 : (Jvm.Cond.fieldLink "OrreryBoxModel" (149 : Nat) "OrreryBoxModel$Scene" "focus" "I") ∈ gw := gw_t 1417 (by decide +kernel) rfl
def sp_MD_camera (wt : Int32) (x : Int32) (y : Int32) (z : Int32) (w : Int32) (h : Int32) (tp : Int32) (ti : Int32) (th : Int32) (wk : Int32) (wa : Int32) (bg : Int32) (pk : Int32) (t0 : Int32) (t1 : Int32) (t2 : Int32) (t3 : Int32) (t4 : Int32) (fo : Int32) (am0 : Int32) (g1 : Nat → Int32) (g2 : Nat → Int32) : Int32 := (if wt < 0 then 0 else (if wt ≤ 2 then (if wt = 2 then (if x < 8 then 0 else (if x ≤ 512 then 1 else 0)) else (if wt = 0 then (if (sp_MD_within (x) (y) (z) (4194304)) = 0 then 0 else (if wt = 0 then 1 else 1)) else (if (sp_MD_within (x) (y) (z) (1048576)) = 0 then 0 else (if wt = 0 then 1 else 1)))) else 0))
def sw_MD_camera (tA : Nat → ClassId) (b : Nat) (f : zV) (wt : Int32) (x : Int32) (y : Int32) (z : Int32) (w : Int32) (h : Int32) (tp : Int32) (ti : Int32) (th : Int32) (wk : Int32) (wa : Int32) (bg : Int32) (pk : Int32) (t0 : Int32) (t1 : Int32) (t2 : Int32) (t3 : Int32) (t4 : Int32) (fo : Int32) (am0 : Int32) (g1 : Nat → Int32) (g2 : Nat → Int32) : zV := (if wt < 0 then (zu (f) 1185 (.inr (1, [.int w, .int h, .ref (b + 1186), .int tp, .ref (b + 1187), .ref (b + 1217), .ref (b + 1247), .ref (b + 1277), .ref (b + 1285), .ref (b + 1278), .int ti, .int 0, .int wk, .int wa, .ref (b + 1281), .int bg, .ref (b + 1282), .ref (b + 1283), .ref (b + 1284), .int pk]))) else (if wt ≤ 2 then (if wt = 2 then (if x < 8 then (zu (f) 1185 (.inr (1, [.int w, .int h, .ref (b + 1186), .int tp, .ref (b + 1187), .ref (b + 1217), .ref (b + 1247), .ref (b + 1277), .ref (b + 1285), .ref (b + 1278), .int ti, .int 0, .int wk, .int wa, .ref (b + 1281), .int bg, .ref (b + 1282), .ref (b + 1283), .ref (b + 1284), .int pk]))) else (if x ≤ 512 then (zu (zu (f) 1185 (.inr (1, [.int w, .int h, .ref (b + 1186), .int tp, .ref (b + 1187), .ref (b + 1217), .ref (b + 1247), .ref (b + 1277), .ref (b + 1285), .ref (b + 1278), .int ti, .int 0, .int wk, .int wa, .ref (b + 1281), .int bg, .ref (b + 1282), .ref (b + 1283), .ref (b + 1284), .int pk]))) 1187 (.inr (15, [.int t0, .int t1, .int t2, .int t3, .int t4, .ref (b + 1188), .ref (b + (1188 + 1)), .ref (b + (1188 + 2)), .ref (b + (1188 + 3)), .ref (b + (1188 + 4)), .ref (b + (1188 + 5)), .ref (b + (1188 + 6)), .ref (b + (1188 + 7)), .ref (b + (1188 + 8)), .ref (b + (1188 + 9)), .ref (b + (1188 + 10)), .ref (b + (1188 + 11)), .ref (b + (1188 + 12)), .ref (b + (1188 + 13)), .ref (b + (1188 + 14)), .ref (b + (1188 + 15)), .ref (b + (1188 + 16)), .ref (b + (1188 + 17)), .ref (b + (1188 + 18)), .ref (b + (1188 + 19)), .ref (b + (1188 + 20)), .ref (b + (1188 + 21)), .ref (b + (1188 + 22)), .ref (b + (1188 + 23)), .ref (b + (1188 + 24)), .ref (b + (1188 + 25)), .ref (b + (1188 + 26)), .ref (b + (1188 + 27)), .ref (b + (1188 + 28)), .int x, .int am0]))) else (zu (f) 1185 (.inr (1, [.int w, .int h, .ref (b + 1186), .int tp, .ref (b + 1187), .ref (b + 1217), .ref (b + 1247), .ref (b + 1277), .ref (b + 1285), .ref (b + 1278), .int ti, .int 0, .int wk, .int wa, .ref (b + 1281), .int bg, .ref (b + 1282), .ref (b + 1283), .ref (b + 1284), .int pk]))))) else (if wt = 0 then (if (sp_MD_within (x) (y) (z) (4194304)) = 0 then (zu (f) 1185 (.inr (1, [.int w, .int h, .ref (b + 1186), .int tp, .ref (b + 1187), .ref (b + 1217), .ref (b + 1247), .ref (b + 1277), .ref (b + 1285), .ref (b + 1278), .int ti, .int 0, .int wk, .int wa, .ref (b + 1281), .int bg, .ref (b + 1282), .ref (b + 1283), .ref (b + 1284), .int pk]))) else (if wt = 0 then (zu (zu (f) 1185 (.inr (1, [.int w, .int h, .ref (b + 1186), .int tp, .ref (b + 1187), .ref (b + 1217), .ref (b + 1247), .ref (b + 1277), .ref (b + 1285), .ref (b + 1278), .int ti, .int 0, .int wk, .int wa, .ref (b + 1281), .int bg, .ref (b + 1282), .ref (b + 1283), .ref (b + 1284), .int pk]))) ((1188 + 26)) (.inl (tA 0, 3, .inl (upd (upd (upd (g1) ((0 : Int32).toNatClampNeg) (x)) ((1 : Int32).toNatClampNeg) (y)) ((2 : Int32).toNatClampNeg) (z))))) else (zu (zu (f) 1185 (.inr (1, [.int w, .int h, .ref (b + 1186), .int tp, .ref (b + 1187), .ref (b + 1217), .ref (b + 1247), .ref (b + 1277), .ref (b + 1285), .ref (b + 1278), .int ti, .int 0, .int wk, .int wa, .ref (b + 1281), .int bg, .ref (b + 1282), .ref (b + 1283), .ref (b + 1284), .int pk]))) ((1188 + 27)) (.inl (tA 0, 3, .inl (upd (upd (upd (g2) ((0 : Int32).toNatClampNeg) (x)) ((1 : Int32).toNatClampNeg) (y)) ((2 : Int32).toNatClampNeg) (z))))))) else (if (sp_MD_within (x) (y) (z) (1048576)) = 0 then (zu (f) 1185 (.inr (1, [.int w, .int h, .ref (b + 1186), .int tp, .ref (b + 1187), .ref (b + 1217), .ref (b + 1247), .ref (b + 1277), .ref (b + 1285), .ref (b + 1278), .int ti, .int 0, .int wk, .int wa, .ref (b + 1281), .int bg, .ref (b + 1282), .ref (b + 1283), .ref (b + 1284), .int pk]))) else (if wt = 0 then (zu (zu (f) 1185 (.inr (1, [.int w, .int h, .ref (b + 1186), .int tp, .ref (b + 1187), .ref (b + 1217), .ref (b + 1247), .ref (b + 1277), .ref (b + 1285), .ref (b + 1278), .int ti, .int 0, .int wk, .int wa, .ref (b + 1281), .int bg, .ref (b + 1282), .ref (b + 1283), .ref (b + 1284), .int pk]))) ((1188 + 26)) (.inl (tA 0, 3, .inl (upd (upd (upd (g1) ((0 : Int32).toNatClampNeg) (x)) ((1 : Int32).toNatClampNeg) (y)) ((2 : Int32).toNatClampNeg) (z))))) else (zu (zu (f) 1185 (.inr (1, [.int w, .int h, .ref (b + 1186), .int tp, .ref (b + 1187), .ref (b + 1217), .ref (b + 1247), .ref (b + 1277), .ref (b + 1285), .ref (b + 1278), .int ti, .int 0, .int wk, .int wa, .ref (b + 1281), .int bg, .ref (b + 1282), .ref (b + 1283), .ref (b + 1284), .int pk]))) ((1188 + 27)) (.inl (tA 0, 3, .inl (upd (upd (upd (g2) ((0 : Int32).toNatClampNeg) (x)) ((1 : Int32).toNatClampNeg) (y)) ((2 : Int32).toNatClampNeg) (z))))))))) else (zu (f) 1185 (.inr (1, [.int w, .int h, .ref (b + 1186), .int tp, .ref (b + 1187), .ref (b + 1217), .ref (b + 1247), .ref (b + 1277), .ref (b + 1285), .ref (b + 1278), .int ti, .int 0, .int wk, .int wa, .ref (b + 1281), .int bg, .ref (b + 1282), .ref (b + 1283), .ref (b + 1284), .int pk])))))
set_option maxHeartbeats 4000000 in
set_option maxRecDepth 100000 in
theorem c_MD_camera (l : Launch) (D : va_G) (tA : Nat → ClassId) (b : Nat) (f : zV) (n : Nat) (wt : Int32) (x : Int32) (y : Int32) (z : Int32) (w : Int32) (h : Int32) (tp : Int32) (ti : Int32) (th : Int32) (wk : Int32) (wa : Int32) (bg : Int32) (pk : Int32) (t0 : Int32) (t1 : Int32) (t2 : Int32) (t3 : Int32) (t4 : Int32) (fo : Int32) (am0 : Int32) (g1 : Nat → Int32) (g2 : Nat → Int32) (hf : f 1185 = some (.inr (1, [.int w, .int h, .ref (b + 1186), .int tp, .ref (b + 1187), .ref (b + 1217), .ref (b + 1247), .ref (b + 1277), .ref (b + 1285), .ref (b + 1278), .int ti, .int th, .int wk, .int wa, .ref (b + 1281), .int bg, .ref (b + 1282), .ref (b + 1283), .ref (b + 1284), .int pk]))) (hs : f 1187 = some (.inr (15, msO b 1188 t0 t1 t2 t3 t4 fo am0))) (h1_ : f ((1188 + 26)) = some (.inl (tA 0, 3, .inl (g1)))) (h2_ : f ((1188 + 27)) = some (.inl (tA 0, 3, .inl (g2))))  : zM l D tA b zy_MD_camera zb_MD_camera 6 (some .boolean) 1 23 0 0 [.ref (b + 1185), .int wt, .int x, .int y, .int z] f n (zE (some (.int (sp_MD_camera wt x y z w h tp ti th wk wa bg pk t0 t1 t2 t3 t4 fo am0 g1 g2))) (sw_MD_camera tA b f wt x y z w h tp ti th wk wa bg pk t0 t1 t2 t3 t4 fo am0 g1 g2) n) := by
  refine zM_of (own := "OrreryBoxModel") (plainFor_of_name (by decide)) rfl (Nat.le_of_ble_eq_true rfl) (fun p e s m below meth c F hr hin hH => ?_)
  refine zr_aload_n F zd_MD_camera_0 rfl ?_
  refine zr_iconstv (v := 0) F zd_MD_camera_1 (by decide) ?_
  refine zr_put F 1 11 zd_MD_camera_2 hf rfl (by decide) zw_1691 rfl rfl rfl rfl (by exact (Nat.le_of_ble_eq_true rfl)) ?_
  refine zr_norm (zu (f) 1185 (.inr (1, [.int w, .int h, .ref (b + 1186), .int tp, .ref (b + 1187), .ref (b + 1217), .ref (b + 1247), .ref (b + 1277), .ref (b + 1285), .ref (b + 1278), .int ti, .int 0, .int wk, .int wa, .ref (b + 1281), .int bg, .ref (b + 1282), .ref (b + 1283), .ref (b + 1284), .int pk]))) _ (rfl) rfl ?_
  refine zr_iload_n F zd_MD_camera_5 rfl ?_
  refine zr_if_lt F 14 zd_MD_camera_6 (by decide) (fun h1 => ?_) (fun h1 => ?_)
  ·
    refine zr_iconstv (v := 0) F zd_MD_camera_14 (by decide) ?_
    exact zr_zret F hr rfl zd_MD_camera_15 (Nat.le_of_ble_eq_true rfl) (Nat.le_of_ble_eq_true rfl) ⟨by rw [sp_MD_camera, if_pos h1], by rw [sw_MD_camera, if_pos h1], rfl⟩
  ·
    refine zr_iload_n F zd_MD_camera_9 rfl ?_
    refine zr_iconstv (v := 2) F zd_MD_camera_10 (by decide) ?_
    refine zr_icmp_le F 16 zd_MD_camera_11 (by decide) (fun h2 => ?_) (fun h2 => ?_)
    ·
      refine zr_iload_n F zd_MD_camera_16 rfl ?_
      refine zr_iconstv (v := 2) F zd_MD_camera_17 (by decide) ?_
      refine zr_icmp_ne F 46 zd_MD_camera_18 (by decide) (fun h3 => ?_) (fun h3 => ?_)
      ·
        refine zr_iload_n F zd_MD_camera_46 rfl ?_
        refine zr_iload_n F zd_MD_camera_47 rfl ?_
        refine zr_iload F zd_MD_camera_48 rfl ?_
        refine zr_iload_n F zd_MD_camera_50 rfl ?_
        refine zr_if_ne F 59 zd_MD_camera_51 (by decide) (fun h4 => ?_) (fun h4 => ?_)
        ·
          refine zr_ldc F zd_MD_camera_59 zw_1961 ?_
          refine zr_callS1 F (c_MD_within l D tA b _ _ (x) (y) (z) (1048576)) zd_MD_camera_61 zs_MD_135 zq_MD_within rfl rfl ⟨(Nat.le_of_ble_eq_true rfl), (Nat.le_of_ble_eq_true rfl)⟩ (Nat.le_of_ble_eq_true rfl) ⟨(Nat.le_of_ble_eq_true rfl), (Nat.le_of_ble_eq_true rfl)⟩ ?_
          refine zr_if_ne F 69 zd_MD_camera_64 (by decide) (fun h5 => ?_) (fun h5 => ?_)
          ·
            refine zr_iload_n F zd_MD_camera_69 rfl ?_
            refine zr_if_ne F 83 zd_MD_camera_70 (by decide) (fun h6 => ?_) (fun h6 => ?_)
            ·
              refine zr_aload_n F zd_MD_camera_83 rfl ?_
              refine zr_get F 1 4 zd_MD_camera_84 (zu_s _ _ _) rfl (by decide) zw_1684 rfl (by rfl) ?_
              refine zr_get F 15 32 zd_MD_camera_87 ((zu_n _ (by omega)).trans hs) rfl (by decide) zw_1410 rfl (by rfl) ?_
              refine zr_astore F zd_MD_camera_90 (by decide) ?_
              refine zr_aload F zd_MD_camera_92 rfl ?_
              refine zr_iconstv (v := 0) F zd_MD_camera_94 (by decide) ?_
              refine zr_iload_n F zd_MD_camera_95 rfl ?_
              refine zr_iast F zd_MD_camera_96 ((zu_n _ (by omega)).trans h2_) (vp_in_nI (n := 0) (by decide) (by decide)) ?_
              refine zr_norm (zu (zu (f) 1185 (.inr (1, [.int w, .int h, .ref (b + 1186), .int tp, .ref (b + 1187), .ref (b + 1217), .ref (b + 1247), .ref (b + 1277), .ref (b + 1285), .ref (b + 1278), .int ti, .int 0, .int wk, .int wa, .ref (b + 1281), .int bg, .ref (b + 1282), .ref (b + 1283), .ref (b + 1284), .int pk]))) ((1188 + 27)) (.inl (tA 0, 3, .inl (upd (g2) ((0 : Int32).toNatClampNeg) (x))))) _ (rfl) rfl ?_
              refine zr_aload F zd_MD_camera_97 rfl ?_
              refine zr_iconstv (v := 1) F zd_MD_camera_99 (by decide) ?_
              refine zr_iload_n F zd_MD_camera_100 rfl ?_
              refine zr_iast F zd_MD_camera_101 (zu_s _ _ _) (vp_in_nI (n := 1) (by decide) (by decide)) ?_
              refine zr_norm (zu (zu (f) 1185 (.inr (1, [.int w, .int h, .ref (b + 1186), .int tp, .ref (b + 1187), .ref (b + 1217), .ref (b + 1247), .ref (b + 1277), .ref (b + 1285), .ref (b + 1278), .int ti, .int 0, .int wk, .int wa, .ref (b + 1281), .int bg, .ref (b + 1282), .ref (b + 1283), .ref (b + 1284), .int pk]))) ((1188 + 27)) (.inl (tA 0, 3, .inl (upd (upd (g2) ((0 : Int32).toNatClampNeg) (x)) ((1 : Int32).toNatClampNeg) (y))))) _ (zu_zu _ _ _ _) rfl ?_
              refine zr_aload F zd_MD_camera_102 rfl ?_
              refine zr_iconstv (v := 2) F zd_MD_camera_104 (by decide) ?_
              refine zr_iload F zd_MD_camera_105 rfl ?_
              refine zr_iast F zd_MD_camera_107 (zu_s _ _ _) (vp_in_nI (n := 2) (by decide) (by decide)) ?_
              refine zr_norm (zu (zu (f) 1185 (.inr (1, [.int w, .int h, .ref (b + 1186), .int tp, .ref (b + 1187), .ref (b + 1217), .ref (b + 1247), .ref (b + 1277), .ref (b + 1285), .ref (b + 1278), .int ti, .int 0, .int wk, .int wa, .ref (b + 1281), .int bg, .ref (b + 1282), .ref (b + 1283), .ref (b + 1284), .int pk]))) ((1188 + 27)) (.inl (tA 0, 3, .inl (upd (upd (upd (g2) ((0 : Int32).toNatClampNeg) (x)) ((1 : Int32).toNatClampNeg) (y)) ((2 : Int32).toNatClampNeg) (z))))) _ (zu_zu _ _ _ _) rfl ?_
              refine zr_iconstv (v := 1) F zd_MD_camera_108 (by decide) ?_
              exact zr_zret F hr rfl zd_MD_camera_109 (Nat.le_of_ble_eq_true rfl) (Nat.le_of_ble_eq_true rfl) ⟨by rw [sp_MD_camera, if_neg h1, if_pos h2, if_neg h3, if_neg h4, if_neg h5, if_neg h6], by rw [sw_MD_camera, if_neg h1, if_pos h2, if_neg h3, if_neg h4, if_neg h5, if_neg h6], rfl⟩
            ·
              refine zr_aload_n F zd_MD_camera_73 rfl ?_
              refine zr_get F 1 4 zd_MD_camera_74 (zu_s _ _ _) rfl (by decide) zw_1684 rfl (by rfl) ?_
              refine zr_get F 15 31 zd_MD_camera_77 ((zu_n _ (by omega)).trans hs) rfl (by decide) zw_1406 rfl (by rfl) ?_
              refine zr_goto F 90 zd_MD_camera_80 (by decide) ?_
              refine zr_astore F zd_MD_camera_90 (by decide) ?_
              refine zr_aload F zd_MD_camera_92 rfl ?_
              refine zr_iconstv (v := 0) F zd_MD_camera_94 (by decide) ?_
              refine zr_iload_n F zd_MD_camera_95 rfl ?_
              refine zr_iast F zd_MD_camera_96 ((zu_n _ (by omega)).trans h1_) (vp_in_nI (n := 0) (by decide) (by decide)) ?_
              refine zr_norm (zu (zu (f) 1185 (.inr (1, [.int w, .int h, .ref (b + 1186), .int tp, .ref (b + 1187), .ref (b + 1217), .ref (b + 1247), .ref (b + 1277), .ref (b + 1285), .ref (b + 1278), .int ti, .int 0, .int wk, .int wa, .ref (b + 1281), .int bg, .ref (b + 1282), .ref (b + 1283), .ref (b + 1284), .int pk]))) ((1188 + 26)) (.inl (tA 0, 3, .inl (upd (g1) ((0 : Int32).toNatClampNeg) (x))))) _ (rfl) rfl ?_
              refine zr_aload F zd_MD_camera_97 rfl ?_
              refine zr_iconstv (v := 1) F zd_MD_camera_99 (by decide) ?_
              refine zr_iload_n F zd_MD_camera_100 rfl ?_
              refine zr_iast F zd_MD_camera_101 (zu_s _ _ _) (vp_in_nI (n := 1) (by decide) (by decide)) ?_
              refine zr_norm (zu (zu (f) 1185 (.inr (1, [.int w, .int h, .ref (b + 1186), .int tp, .ref (b + 1187), .ref (b + 1217), .ref (b + 1247), .ref (b + 1277), .ref (b + 1285), .ref (b + 1278), .int ti, .int 0, .int wk, .int wa, .ref (b + 1281), .int bg, .ref (b + 1282), .ref (b + 1283), .ref (b + 1284), .int pk]))) ((1188 + 26)) (.inl (tA 0, 3, .inl (upd (upd (g1) ((0 : Int32).toNatClampNeg) (x)) ((1 : Int32).toNatClampNeg) (y))))) _ (zu_zu _ _ _ _) rfl ?_
              refine zr_aload F zd_MD_camera_102 rfl ?_
              refine zr_iconstv (v := 2) F zd_MD_camera_104 (by decide) ?_
              refine zr_iload F zd_MD_camera_105 rfl ?_
              refine zr_iast F zd_MD_camera_107 (zu_s _ _ _) (vp_in_nI (n := 2) (by decide) (by decide)) ?_
              refine zr_norm (zu (zu (f) 1185 (.inr (1, [.int w, .int h, .ref (b + 1186), .int tp, .ref (b + 1187), .ref (b + 1217), .ref (b + 1247), .ref (b + 1277), .ref (b + 1285), .ref (b + 1278), .int ti, .int 0, .int wk, .int wa, .ref (b + 1281), .int bg, .ref (b + 1282), .ref (b + 1283), .ref (b + 1284), .int pk]))) ((1188 + 26)) (.inl (tA 0, 3, .inl (upd (upd (upd (g1) ((0 : Int32).toNatClampNeg) (x)) ((1 : Int32).toNatClampNeg) (y)) ((2 : Int32).toNatClampNeg) (z))))) _ (zu_zu _ _ _ _) rfl ?_
              refine zr_iconstv (v := 1) F zd_MD_camera_108 (by decide) ?_
              exact zr_zret F hr rfl zd_MD_camera_109 (Nat.le_of_ble_eq_true rfl) (Nat.le_of_ble_eq_true rfl) ⟨by rw [sp_MD_camera, if_neg h1, if_pos h2, if_neg h3, if_neg h4, if_neg h5, if_pos h6], by rw [sw_MD_camera, if_neg h1, if_pos h2, if_neg h3, if_neg h4, if_neg h5, if_pos h6], rfl⟩
          ·
            refine zr_iconstv (v := 0) F zd_MD_camera_67 (by decide) ?_
            exact zr_zret F hr rfl zd_MD_camera_68 (Nat.le_of_ble_eq_true rfl) (Nat.le_of_ble_eq_true rfl) ⟨by rw [sp_MD_camera, if_neg h1, if_pos h2, if_neg h3, if_neg h4, if_pos h5], by rw [sw_MD_camera, if_neg h1, if_pos h2, if_neg h3, if_neg h4, if_pos h5], rfl⟩
        ·
          refine zr_ldc F zd_MD_camera_54 zw_1960 ?_
          refine zr_goto F 61 zd_MD_camera_56 (by decide) ?_
          refine zr_callS1 F (c_MD_within l D tA b _ _ (x) (y) (z) (4194304)) zd_MD_camera_61 zs_MD_135 zq_MD_within rfl rfl ⟨(Nat.le_of_ble_eq_true rfl), (Nat.le_of_ble_eq_true rfl)⟩ (Nat.le_of_ble_eq_true rfl) ⟨(Nat.le_of_ble_eq_true rfl), (Nat.le_of_ble_eq_true rfl)⟩ ?_
          refine zr_if_ne F 69 zd_MD_camera_64 (by decide) (fun h7 => ?_) (fun h7 => ?_)
          ·
            refine zr_iload_n F zd_MD_camera_69 rfl ?_
            refine zr_if_ne F 83 zd_MD_camera_70 (by decide) (fun h8 => ?_) (fun h8 => ?_)
            ·
              refine zr_aload_n F zd_MD_camera_83 rfl ?_
              refine zr_get F 1 4 zd_MD_camera_84 (zu_s _ _ _) rfl (by decide) zw_1684 rfl (by rfl) ?_
              refine zr_get F 15 32 zd_MD_camera_87 ((zu_n _ (by omega)).trans hs) rfl (by decide) zw_1410 rfl (by rfl) ?_
              refine zr_astore F zd_MD_camera_90 (by decide) ?_
              refine zr_aload F zd_MD_camera_92 rfl ?_
              refine zr_iconstv (v := 0) F zd_MD_camera_94 (by decide) ?_
              refine zr_iload_n F zd_MD_camera_95 rfl ?_
              refine zr_iast F zd_MD_camera_96 ((zu_n _ (by omega)).trans h2_) (vp_in_nI (n := 0) (by decide) (by decide)) ?_
              refine zr_norm (zu (zu (f) 1185 (.inr (1, [.int w, .int h, .ref (b + 1186), .int tp, .ref (b + 1187), .ref (b + 1217), .ref (b + 1247), .ref (b + 1277), .ref (b + 1285), .ref (b + 1278), .int ti, .int 0, .int wk, .int wa, .ref (b + 1281), .int bg, .ref (b + 1282), .ref (b + 1283), .ref (b + 1284), .int pk]))) ((1188 + 27)) (.inl (tA 0, 3, .inl (upd (g2) ((0 : Int32).toNatClampNeg) (x))))) _ (rfl) rfl ?_
              refine zr_aload F zd_MD_camera_97 rfl ?_
              refine zr_iconstv (v := 1) F zd_MD_camera_99 (by decide) ?_
              refine zr_iload_n F zd_MD_camera_100 rfl ?_
              refine zr_iast F zd_MD_camera_101 (zu_s _ _ _) (vp_in_nI (n := 1) (by decide) (by decide)) ?_
              refine zr_norm (zu (zu (f) 1185 (.inr (1, [.int w, .int h, .ref (b + 1186), .int tp, .ref (b + 1187), .ref (b + 1217), .ref (b + 1247), .ref (b + 1277), .ref (b + 1285), .ref (b + 1278), .int ti, .int 0, .int wk, .int wa, .ref (b + 1281), .int bg, .ref (b + 1282), .ref (b + 1283), .ref (b + 1284), .int pk]))) ((1188 + 27)) (.inl (tA 0, 3, .inl (upd (upd (g2) ((0 : Int32).toNatClampNeg) (x)) ((1 : Int32).toNatClampNeg) (y))))) _ (zu_zu _ _ _ _) rfl ?_
              refine zr_aload F zd_MD_camera_102 rfl ?_
              refine zr_iconstv (v := 2) F zd_MD_camera_104 (by decide) ?_
              refine zr_iload F zd_MD_camera_105 rfl ?_
              refine zr_iast F zd_MD_camera_107 (zu_s _ _ _) (vp_in_nI (n := 2) (by decide) (by decide)) ?_
              refine zr_norm (zu (zu (f) 1185 (.inr (1, [.int w, .int h, .ref (b + 1186), .int tp, .ref (b + 1187), .ref (b + 1217), .ref (b + 1247), .ref (b + 1277), .ref (b + 1285), .ref (b + 1278), .int ti, .int 0, .int wk, .int wa, .ref (b + 1281), .int bg, .ref (b + 1282), .ref (b + 1283), .ref (b + 1284), .int pk]))) ((1188 + 27)) (.inl (tA 0, 3, .inl (upd (upd (upd (g2) ((0 : Int32).toNatClampNeg) (x)) ((1 : Int32).toNatClampNeg) (y)) ((2 : Int32).toNatClampNeg) (z))))) _ (zu_zu _ _ _ _) rfl ?_
              refine zr_iconstv (v := 1) F zd_MD_camera_108 (by decide) ?_
              exact zr_zret F hr rfl zd_MD_camera_109 (Nat.le_of_ble_eq_true rfl) (Nat.le_of_ble_eq_true rfl) ⟨by rw [sp_MD_camera, if_neg h1, if_pos h2, if_neg h3, if_pos h4, if_neg h7, if_neg h8], by rw [sw_MD_camera, if_neg h1, if_pos h2, if_neg h3, if_pos h4, if_neg h7, if_neg h8], rfl⟩
            ·
              refine zr_aload_n F zd_MD_camera_73 rfl ?_
              refine zr_get F 1 4 zd_MD_camera_74 (zu_s _ _ _) rfl (by decide) zw_1684 rfl (by rfl) ?_
              refine zr_get F 15 31 zd_MD_camera_77 ((zu_n _ (by omega)).trans hs) rfl (by decide) zw_1406 rfl (by rfl) ?_
              refine zr_goto F 90 zd_MD_camera_80 (by decide) ?_
              refine zr_astore F zd_MD_camera_90 (by decide) ?_
              refine zr_aload F zd_MD_camera_92 rfl ?_
              refine zr_iconstv (v := 0) F zd_MD_camera_94 (by decide) ?_
              refine zr_iload_n F zd_MD_camera_95 rfl ?_
              refine zr_iast F zd_MD_camera_96 ((zu_n _ (by omega)).trans h1_) (vp_in_nI (n := 0) (by decide) (by decide)) ?_
              refine zr_norm (zu (zu (f) 1185 (.inr (1, [.int w, .int h, .ref (b + 1186), .int tp, .ref (b + 1187), .ref (b + 1217), .ref (b + 1247), .ref (b + 1277), .ref (b + 1285), .ref (b + 1278), .int ti, .int 0, .int wk, .int wa, .ref (b + 1281), .int bg, .ref (b + 1282), .ref (b + 1283), .ref (b + 1284), .int pk]))) ((1188 + 26)) (.inl (tA 0, 3, .inl (upd (g1) ((0 : Int32).toNatClampNeg) (x))))) _ (rfl) rfl ?_
              refine zr_aload F zd_MD_camera_97 rfl ?_
              refine zr_iconstv (v := 1) F zd_MD_camera_99 (by decide) ?_
              refine zr_iload_n F zd_MD_camera_100 rfl ?_
              refine zr_iast F zd_MD_camera_101 (zu_s _ _ _) (vp_in_nI (n := 1) (by decide) (by decide)) ?_
              refine zr_norm (zu (zu (f) 1185 (.inr (1, [.int w, .int h, .ref (b + 1186), .int tp, .ref (b + 1187), .ref (b + 1217), .ref (b + 1247), .ref (b + 1277), .ref (b + 1285), .ref (b + 1278), .int ti, .int 0, .int wk, .int wa, .ref (b + 1281), .int bg, .ref (b + 1282), .ref (b + 1283), .ref (b + 1284), .int pk]))) ((1188 + 26)) (.inl (tA 0, 3, .inl (upd (upd (g1) ((0 : Int32).toNatClampNeg) (x)) ((1 : Int32).toNatClampNeg) (y))))) _ (zu_zu _ _ _ _) rfl ?_
              refine zr_aload F zd_MD_camera_102 rfl ?_
              refine zr_iconstv (v := 2) F zd_MD_camera_104 (by decide) ?_
              refine zr_iload F zd_MD_camera_105 rfl ?_
              refine zr_iast F zd_MD_camera_107 (zu_s _ _ _) (vp_in_nI (n := 2) (by decide) (by decide)) ?_
              refine zr_norm (zu (zu (f) 1185 (.inr (1, [.int w, .int h, .ref (b + 1186), .int tp, .ref (b + 1187), .ref (b + 1217), .ref (b + 1247), .ref (b + 1277), .ref (b + 1285), .ref (b + 1278), .int ti, .int 0, .int wk, .int wa, .ref (b + 1281), .int bg, .ref (b + 1282), .ref (b + 1283), .ref (b + 1284), .int pk]))) ((1188 + 26)) (.inl (tA 0, 3, .inl (upd (upd (upd (g1) ((0 : Int32).toNatClampNeg) (x)) ((1 : Int32).toNatClampNeg) (y)) ((2 : Int32).toNatClampNeg) (z))))) _ (zu_zu _ _ _ _) rfl ?_
              refine zr_iconstv (v := 1) F zd_MD_camera_108 (by decide) ?_
              exact zr_zret F hr rfl zd_MD_camera_109 (Nat.le_of_ble_eq_true rfl) (Nat.le_of_ble_eq_true rfl) ⟨by rw [sp_MD_camera, if_neg h1, if_pos h2, if_neg h3, if_pos h4, if_neg h7, if_pos h8], by rw [sw_MD_camera, if_neg h1, if_pos h2, if_neg h3, if_pos h4, if_neg h7, if_pos h8], rfl⟩
          ·
            refine zr_iconstv (v := 0) F zd_MD_camera_67 (by decide) ?_
            exact zr_zret F hr rfl zd_MD_camera_68 (Nat.le_of_ble_eq_true rfl) (Nat.le_of_ble_eq_true rfl) ⟨by rw [sp_MD_camera, if_neg h1, if_pos h2, if_neg h3, if_pos h4, if_pos h7], by rw [sw_MD_camera, if_neg h1, if_pos h2, if_neg h3, if_pos h4, if_pos h7], rfl⟩
      ·
        refine zr_iload_n F zd_MD_camera_21 rfl ?_
        refine zr_bipushv (v := 8) F zd_MD_camera_22 (by decide) ?_
        refine zr_icmp_lt F 34 zd_MD_camera_24 (by decide) (fun h9 => ?_) (fun h9 => ?_)
        ·
          refine zr_iconstv (v := 0) F zd_MD_camera_34 (by decide) ?_
          exact zr_zret F hr rfl zd_MD_camera_35 (Nat.le_of_ble_eq_true rfl) (Nat.le_of_ble_eq_true rfl) ⟨by rw [sp_MD_camera, if_neg h1, if_pos h2, if_pos h3, if_pos h9], by rw [sw_MD_camera, if_neg h1, if_pos h2, if_pos h3, if_pos h9], rfl⟩
        ·
          refine zr_iload_n F zd_MD_camera_27 rfl ?_
          refine zr_sipushv (v := 512) F zd_MD_camera_28 (by decide) ?_
          refine zr_icmp_le F 36 zd_MD_camera_31 (by decide) (fun h10 => ?_) (fun h10 => ?_)
          ·
            refine zr_aload_n F zd_MD_camera_36 rfl ?_
            refine zr_get F 1 4 zd_MD_camera_37 (zu_s _ _ _) rfl (by decide) zw_1684 rfl (by rfl) ?_
            refine zr_iload_n F zd_MD_camera_40 rfl ?_
            refine zr_put F 15 34 zd_MD_camera_41 ((zu_n _ (by omega)).trans hs) rfl (by decide) zw_1417 rfl rfl rfl rfl (by exact (Nat.le_of_ble_eq_true rfl)) ?_
            refine zr_norm (zu (zu (f) 1185 (.inr (1, [.int w, .int h, .ref (b + 1186), .int tp, .ref (b + 1187), .ref (b + 1217), .ref (b + 1247), .ref (b + 1277), .ref (b + 1285), .ref (b + 1278), .int ti, .int 0, .int wk, .int wa, .ref (b + 1281), .int bg, .ref (b + 1282), .ref (b + 1283), .ref (b + 1284), .int pk]))) 1187 (.inr (15, [.int t0, .int t1, .int t2, .int t3, .int t4, .ref (b + 1188), .ref (b + (1188 + 1)), .ref (b + (1188 + 2)), .ref (b + (1188 + 3)), .ref (b + (1188 + 4)), .ref (b + (1188 + 5)), .ref (b + (1188 + 6)), .ref (b + (1188 + 7)), .ref (b + (1188 + 8)), .ref (b + (1188 + 9)), .ref (b + (1188 + 10)), .ref (b + (1188 + 11)), .ref (b + (1188 + 12)), .ref (b + (1188 + 13)), .ref (b + (1188 + 14)), .ref (b + (1188 + 15)), .ref (b + (1188 + 16)), .ref (b + (1188 + 17)), .ref (b + (1188 + 18)), .ref (b + (1188 + 19)), .ref (b + (1188 + 20)), .ref (b + (1188 + 21)), .ref (b + (1188 + 22)), .ref (b + (1188 + 23)), .ref (b + (1188 + 24)), .ref (b + (1188 + 25)), .ref (b + (1188 + 26)), .ref (b + (1188 + 27)), .ref (b + (1188 + 28)), .int x, .int am0]))) _ (rfl) rfl ?_
            refine zr_iconstv (v := 1) F zd_MD_camera_44 (by decide) ?_
            exact zr_zret F hr rfl zd_MD_camera_45 (Nat.le_of_ble_eq_true rfl) (Nat.le_of_ble_eq_true rfl) ⟨by rw [sp_MD_camera, if_neg h1, if_pos h2, if_pos h3, if_neg h9, if_pos h10], by rw [sw_MD_camera, if_neg h1, if_pos h2, if_pos h3, if_neg h9, if_pos h10], rfl⟩
          ·
            refine zr_iconstv (v := 0) F zd_MD_camera_34 (by decide) ?_
            exact zr_zret F hr rfl zd_MD_camera_35 (Nat.le_of_ble_eq_true rfl) (Nat.le_of_ble_eq_true rfl) ⟨by rw [sp_MD_camera, if_neg h1, if_pos h2, if_pos h3, if_neg h9, if_neg h10], by rw [sw_MD_camera, if_neg h1, if_pos h2, if_pos h3, if_neg h9, if_neg h10], rfl⟩
    ·
      refine zr_iconstv (v := 0) F zd_MD_camera_14 (by decide) ?_
      exact zr_zret F hr rfl zd_MD_camera_15 (Nat.le_of_ble_eq_true rfl) (Nat.le_of_ble_eq_true rfl) ⟨by rw [sp_MD_camera, if_neg h1, if_neg h2], by rw [sw_MD_camera, if_neg h1, if_neg h2], rfl⟩
abbrev zb_XPicture_lacks : ByteArray := prog_6_method_4_code
def zy_XPicture_lacks : MethodName := ⟨"OrreryBox$Picture", "lacks", "(I)Z"⟩
theorem zc_XPicture_lacks : Cond.code zy_XPicture_lacks zb_XPicture_lacks 2 (some .boolean) ∈ gw := gw_t 775 (by decide +kernel) rfl
theorem zq_XPicture_lacks : zy_XPicture_lacks.cls ≠ "java/lang/invoke/MethodHandle" ∧ zy_XPicture_lacks.cls ≠ "java/lang/invoke/VarHandle" ∧ (parseMethodDescriptor zy_XPicture_lacks.desc).map (fun d => d.parameters.length) = some 1 := by decide +kernel
theorem zd_XPicture_lacks_0 : decode zb_XPicture_lacks 0 = .ok (.aload_n 0, 1) := by decide +kernel
theorem zd_XPicture_lacks_1 : decode zb_XPicture_lacks 1 = .ok (.getfield 54, 3) := by decide +kernel
theorem zd_XPicture_lacks_4 : decode zb_XPicture_lacks 4 = .ok (.ifCond .eq 32, 3) := by decide +kernel
theorem zd_XPicture_lacks_7 : decode zb_XPicture_lacks 7 = .ok (.iload_n 1, 1) := by decide +kernel
theorem zd_XPicture_lacks_8 : decode zb_XPicture_lacks 8 = .ok (.ifCond .lt 28, 3) := by decide +kernel
theorem zd_XPicture_lacks_11 : decode zb_XPicture_lacks 11 = .ok (.iload_n 1, 1) := by decide +kernel
theorem zd_XPicture_lacks_12 : decode zb_XPicture_lacks 12 = .ok (.aload_n 0, 1) := by decide +kernel
theorem zd_XPicture_lacks_13 : decode zb_XPicture_lacks 13 = .ok (.getfield 38, 3) := by decide +kernel
theorem zd_XPicture_lacks_16 : decode zb_XPicture_lacks 16 = .ok (.if_icmp .ge 20, 3) := by decide +kernel
theorem zd_XPicture_lacks_19 : decode zb_XPicture_lacks 19 = .ok (.aload_n 0, 1) := by decide +kernel
theorem zd_XPicture_lacks_20 : decode zb_XPicture_lacks 20 = .ok (.getfield 58, 3) := by decide +kernel
theorem zd_XPicture_lacks_23 : decode zb_XPicture_lacks 23 = .ok (.iload_n 1, 1) := by decide +kernel
theorem zd_XPicture_lacks_24 : decode zb_XPicture_lacks 24 = .ok (.lshr, 1) := by decide +kernel
theorem zd_XPicture_lacks_25 : decode zb_XPicture_lacks 25 = .ok (.lconst 1, 1) := by decide +kernel
theorem zd_XPicture_lacks_26 : decode zb_XPicture_lacks 26 = .ok (.land, 1) := by decide +kernel
theorem zd_XPicture_lacks_27 : decode zb_XPicture_lacks 27 = .ok (.lconst 0, 1) := by decide +kernel
theorem zd_XPicture_lacks_28 : decode zb_XPicture_lacks 28 = .ok (.lcmp, 1) := by decide +kernel
theorem zd_XPicture_lacks_29 : decode zb_XPicture_lacks 29 = .ok (.ifCond .ne 7, 3) := by decide +kernel
theorem zd_XPicture_lacks_32 : decode zb_XPicture_lacks 32 = .ok (.iconst 1, 1) := by decide +kernel
theorem zd_XPicture_lacks_33 : decode zb_XPicture_lacks 33 = .ok (.goto 4, 3) := by decide +kernel
theorem zd_XPicture_lacks_36 : decode zb_XPicture_lacks 36 = .ok (.iconst 0, 1) := by decide +kernel
theorem zd_XPicture_lacks_37 : decode zb_XPicture_lacks 37 = .ok (.ireturn, 1) := by decide +kernel
theorem zw_445 : (Jvm.Cond.fieldLink "OrreryBox$Picture" (54 : Nat) "OrreryBox$Picture" "begun" "Z") ∈ gw := gw_t 445 (by decide +kernel) rfl
theorem zw_446 : (Jvm.Cond.fieldLink "OrreryBox$Picture" (58 : Nat) "OrreryBox$Picture" "done" "J") ∈ gw := gw_t 446 (by decide +kernel) rfl
def sp_XPicture_lacks (k : Int32) (pt : Int32) (pa : Nat) (pb : Nat) (ps : Value) (pw : Int32) (ph : Int32) (px : Int32) (pg : Int32) (pd : Nat) (pe : Nat) (pn : Int32) (pp : Nat) (bg : Int32) (dn : Int64) (p1 : Int32) (p2 : Int32) (p3 : Int32) (p4 : Int32) : Int32 := (if bg = 0 then 0 else (if k < 0 then 0 else (if pt ≤ k then 0 else (if (lg_cmp ((dn >>> ((k : Int32).toInt64 &&& 63)) &&& 1) 0) = 0 then 1 else 0))))
set_option maxHeartbeats 4000000 in
set_option maxRecDepth 100000 in
theorem c_XPicture_lacks (l : Launch) (D : va_G) (tA : Nat → ClassId) (b : Nat) (f : zV) (n : Nat) (k : Int32) (pt : Int32) (pa : Nat) (pb : Nat) (ps : Value) (pw : Int32) (ph : Int32) (px : Int32) (pg : Int32) (pd : Nat) (pe : Nat) (pn : Int32) (pp : Nat) (bg : Int32) (dn : Int64) (p1 : Int32) (p2 : Int32) (p3 : Int32) (p4 : Int32) (hp : f 1178 = some (.inr (5, [.int pt, .ref (b + pa), .ref (b + pb), ps, .int pw, .int ph, .int px, .int pg, .ref (b + pd), .ref (b + pe), .int pn, .ref (b + pp), .int bg, .long dn, .int p1, .int p2, .int p3, .int p4])))  : zM l D tA b zy_XPicture_lacks zb_XPicture_lacks 2 (some .boolean) 0 0 0 0 [.ref (b + 1178), .int k] f n (zE (some (.int (sp_XPicture_lacks k pt pa pb ps pw ph px pg pd pe pn pp bg dn p1 p2 p3 p4))) f n) := by
  refine zM_of (own := "OrreryBox$Picture") (plainFor_of_name (by decide)) rfl (Nat.le_of_ble_eq_true rfl) (fun p e s m below meth c F hr hin hH => ?_)
  refine zr_aload_n F zd_XPicture_lacks_0 rfl ?_
  refine zr_get F 5 12 zd_XPicture_lacks_1 hp rfl (by decide) zw_445 rfl (by rfl) ?_
  refine zr_if_eq F 36 zd_XPicture_lacks_4 (by decide) (fun h1 => ?_) (fun h1 => ?_)
  ·
    refine zr_iconstv (v := 0) F zd_XPicture_lacks_36 (by decide) ?_
    exact zr_zret F hr rfl zd_XPicture_lacks_37 (Nat.le_of_ble_eq_true rfl) (Nat.le_of_ble_eq_true rfl) ⟨by rw [sp_XPicture_lacks, if_pos h1], rfl, rfl⟩
  ·
    refine zr_iload_n F zd_XPicture_lacks_7 rfl ?_
    refine zr_if_lt F 36 zd_XPicture_lacks_8 (by decide) (fun h2 => ?_) (fun h2 => ?_)
    ·
      refine zr_iconstv (v := 0) F zd_XPicture_lacks_36 (by decide) ?_
      exact zr_zret F hr rfl zd_XPicture_lacks_37 (Nat.le_of_ble_eq_true rfl) (Nat.le_of_ble_eq_true rfl) ⟨by rw [sp_XPicture_lacks, if_neg h1, if_pos h2], rfl, rfl⟩
    ·
      refine zr_iload_n F zd_XPicture_lacks_11 rfl ?_
      refine zr_aload_n F zd_XPicture_lacks_12 rfl ?_
      refine zr_get F 5 0 zd_XPicture_lacks_13 hp rfl (by decide) zw_429 rfl (by rfl) ?_
      refine zr_icmp_ge F 36 zd_XPicture_lacks_16 (by decide) (fun h3 => ?_) (fun h3 => ?_)
      ·
        refine zr_iconstv (v := 0) F zd_XPicture_lacks_36 (by decide) ?_
        exact zr_zret F hr rfl zd_XPicture_lacks_37 (Nat.le_of_ble_eq_true rfl) (Nat.le_of_ble_eq_true rfl) ⟨by rw [sp_XPicture_lacks, if_neg h1, if_neg h2, if_pos h3], rfl, rfl⟩
      ·
        refine zr_aload_n F zd_XPicture_lacks_19 rfl ?_
        refine zr_get F 5 13 zd_XPicture_lacks_20 hp rfl (by decide) zw_446 rfl (by rfl) ?_
        refine zr_iload_n F zd_XPicture_lacks_23 rfl ?_
        refine zr_lshr F zd_XPicture_lacks_24 ?_
        refine zr_lconstv (v := 1) F zd_XPicture_lacks_25 (by decide) ?_
        refine zr_land F zd_XPicture_lacks_26 ?_
        refine zr_lconstv (v := 0) F zd_XPicture_lacks_27 (by decide) ?_
        refine zr_lcmp F zd_XPicture_lacks_28 ?_
        refine zr_if_ne F 36 zd_XPicture_lacks_29 (by decide) (fun h4 => ?_) (fun h4 => ?_)
        ·
          refine zr_iconstv (v := 0) F zd_XPicture_lacks_36 (by decide) ?_
          exact zr_zret F hr rfl zd_XPicture_lacks_37 (Nat.le_of_ble_eq_true rfl) (Nat.le_of_ble_eq_true rfl) ⟨by rw [sp_XPicture_lacks, if_neg h1, if_neg h2, if_neg h3, if_neg h4], rfl, rfl⟩
        ·
          refine zr_iconstv (v := 1) F zd_XPicture_lacks_32 (by decide) ?_
          refine zr_goto F 37 zd_XPicture_lacks_33 (by decide) ?_
          exact zr_zret F hr rfl zd_XPicture_lacks_37 (Nat.le_of_ble_eq_true rfl) (Nat.le_of_ble_eq_true rfl) ⟨by rw [sp_XPicture_lacks, if_neg h1, if_neg h2, if_neg h3, if_pos h4], rfl, rfl⟩
abbrev zb_XPicture_shows : ByteArray := prog_6_method_5_code
def zy_XPicture_shows : MethodName := ⟨"OrreryBox$Picture", "shows", "(II)Z"⟩
theorem zc_XPicture_shows : Cond.code zy_XPicture_shows zb_XPicture_shows 3 (some .boolean) ∈ gw := gw_t 871 (by decide +kernel) rfl
theorem zq_XPicture_shows : zy_XPicture_shows.cls ≠ "java/lang/invoke/MethodHandle" ∧ zy_XPicture_shows.cls ≠ "java/lang/invoke/VarHandle" ∧ (parseMethodDescriptor zy_XPicture_shows.desc).map (fun d => d.parameters.length) = some 2 := by decide +kernel
theorem zd_XPicture_shows_0 : decode zb_XPicture_shows 0 = .ok (.aload_n 0, 1) := by decide +kernel
theorem zd_XPicture_shows_1 : decode zb_XPicture_shows 1 = .ok (.getfield 54, 3) := by decide +kernel
theorem zd_XPicture_shows_4 : decode zb_XPicture_shows 4 = .ok (.ifCond .eq 33, 3) := by decide +kernel
theorem zd_XPicture_shows_7 : decode zb_XPicture_shows 7 = .ok (.aload_n 0, 1) := by decide +kernel
theorem zd_XPicture_shows_8 : decode zb_XPicture_shows 8 = .ok (.getfield 58, 3) := by decide +kernel
theorem zd_XPicture_shows_11 : decode zb_XPicture_shows 11 = .ok (.iload_n 2, 1) := by decide +kernel
theorem zd_XPicture_shows_12 : decode zb_XPicture_shows 12 = .ok (.bipush 8, 2) := by decide +kernel
theorem zd_XPicture_shows_14 : decode zb_XPicture_shows 14 = .ok (.idiv, 1) := by decide +kernel
theorem zd_XPicture_shows_15 : decode zb_XPicture_shows 15 = .ok (.aload_n 0, 1) := by decide +kernel
theorem zd_XPicture_shows_16 : decode zb_XPicture_shows 16 = .ok (.getfield 35, 3) := by decide +kernel
theorem zd_XPicture_shows_19 : decode zb_XPicture_shows 19 = .ok (.imul, 1) := by decide +kernel
theorem zd_XPicture_shows_20 : decode zb_XPicture_shows 20 = .ok (.iload_n 1, 1) := by decide +kernel
theorem zd_XPicture_shows_21 : decode zb_XPicture_shows 21 = .ok (.bipush 8, 2) := by decide +kernel
theorem zd_XPicture_shows_23 : decode zb_XPicture_shows 23 = .ok (.idiv, 1) := by decide +kernel
theorem zd_XPicture_shows_24 : decode zb_XPicture_shows 24 = .ok (.iadd, 1) := by decide +kernel
theorem zd_XPicture_shows_25 : decode zb_XPicture_shows 25 = .ok (.lshr, 1) := by decide +kernel
theorem zd_XPicture_shows_26 : decode zb_XPicture_shows 26 = .ok (.lconst 1, 1) := by decide +kernel
theorem zd_XPicture_shows_27 : decode zb_XPicture_shows 27 = .ok (.land, 1) := by decide +kernel
theorem zd_XPicture_shows_28 : decode zb_XPicture_shows 28 = .ok (.lconst 1, 1) := by decide +kernel
theorem zd_XPicture_shows_29 : decode zb_XPicture_shows 29 = .ok (.lcmp, 1) := by decide +kernel
theorem zd_XPicture_shows_30 : decode zb_XPicture_shows 30 = .ok (.ifCond .ne 7, 3) := by decide +kernel
theorem zd_XPicture_shows_33 : decode zb_XPicture_shows 33 = .ok (.iconst 1, 1) := by decide +kernel
theorem zd_XPicture_shows_34 : decode zb_XPicture_shows 34 = .ok (.goto 4, 3) := by decide +kernel
theorem zd_XPicture_shows_37 : decode zb_XPicture_shows 37 = .ok (.iconst 0, 1) := by decide +kernel
theorem zd_XPicture_shows_38 : decode zb_XPicture_shows 38 = .ok (.ireturn, 1) := by decide +kernel
def sp_XPicture_shows (x : Int32) (y : Int32) (pt : Int32) (pa : Nat) (pb : Nat) (ps : Value) (pw : Int32) (ph : Int32) (px : Int32) (pg : Int32) (pd : Nat) (pe : Nat) (pn : Int32) (pp : Nat) (bg : Int32) (dn : Int64) (p1 : Int32) (p2 : Int32) (p3 : Int32) (p4 : Int32) : Int32 := (if bg = 0 then 0 else (if (lg_cmp ((dn >>> (((((y / 8) * px) + (x / 8)) : Int32).toInt64 &&& 63)) &&& 1) 1) = 0 then 1 else 0))
set_option maxHeartbeats 4000000 in
set_option maxRecDepth 100000 in
theorem c_XPicture_shows (l : Launch) (D : va_G) (tA : Nat → ClassId) (b : Nat) (f : zV) (n : Nat) (x : Int32) (y : Int32) (pt : Int32) (pa : Nat) (pb : Nat) (ps : Value) (pw : Int32) (ph : Int32) (px : Int32) (pg : Int32) (pd : Nat) (pe : Nat) (pn : Int32) (pp : Nat) (bg : Int32) (dn : Int64) (p1 : Int32) (p2 : Int32) (p3 : Int32) (p4 : Int32) (hp : f 1178 = some (.inr (5, [.int pt, .ref (b + pa), .ref (b + pb), ps, .int pw, .int ph, .int px, .int pg, .ref (b + pd), .ref (b + pe), .int pn, .ref (b + pp), .int bg, .long dn, .int p1, .int p2, .int p3, .int p4])))  : zM l D tA b zy_XPicture_shows zb_XPicture_shows 3 (some .boolean) 0 0 0 0 [.ref (b + 1178), .int x, .int y] f n (zE (some (.int (sp_XPicture_shows x y pt pa pb ps pw ph px pg pd pe pn pp bg dn p1 p2 p3 p4))) f n) := by
  refine zM_of (own := "OrreryBox$Picture") (plainFor_of_name (by decide)) rfl (Nat.le_of_ble_eq_true rfl) (fun p e s m below meth c F hr hin hH => ?_)
  refine zr_aload_n F zd_XPicture_shows_0 rfl ?_
  refine zr_get F 5 12 zd_XPicture_shows_1 hp rfl (by decide) zw_445 rfl (by rfl) ?_
  refine zr_if_eq F 37 zd_XPicture_shows_4 (by decide) (fun h1 => ?_) (fun h1 => ?_)
  ·
    refine zr_iconstv (v := 0) F zd_XPicture_shows_37 (by decide) ?_
    exact zr_zret F hr rfl zd_XPicture_shows_38 (Nat.le_of_ble_eq_true rfl) (Nat.le_of_ble_eq_true rfl) ⟨by rw [sp_XPicture_shows, if_pos h1], rfl, rfl⟩
  ·
    refine zr_aload_n F zd_XPicture_shows_7 rfl ?_
    refine zr_get F 5 13 zd_XPicture_shows_8 hp rfl (by decide) zw_446 rfl (by rfl) ?_
    refine zr_iload_n F zd_XPicture_shows_11 rfl ?_
    refine zr_bipushv (v := 8) F zd_XPicture_shows_12 (by decide) ?_
    refine zr_idiv F zd_XPicture_shows_14 (by decide) ?_
    refine zr_aload_n F zd_XPicture_shows_15 rfl ?_
    refine zr_get F 5 6 zd_XPicture_shows_16 hp rfl (by decide) zw_439 rfl (by rfl) ?_
    refine zr_imul F zd_XPicture_shows_19 ?_
    refine zr_iload_n F zd_XPicture_shows_20 rfl ?_
    refine zr_bipushv (v := 8) F zd_XPicture_shows_21 (by decide) ?_
    refine zr_idiv F zd_XPicture_shows_23 (by decide) ?_
    refine zr_iadd F zd_XPicture_shows_24 ?_
    refine zr_lshr F zd_XPicture_shows_25 ?_
    refine zr_lconstv (v := 1) F zd_XPicture_shows_26 (by decide) ?_
    refine zr_land F zd_XPicture_shows_27 ?_
    refine zr_lconstv (v := 1) F zd_XPicture_shows_28 (by decide) ?_
    refine zr_lcmp F zd_XPicture_shows_29 ?_
    refine zr_if_ne F 37 zd_XPicture_shows_30 (by decide) (fun h2 => ?_) (fun h2 => ?_)
    ·
      refine zr_iconstv (v := 0) F zd_XPicture_shows_37 (by decide) ?_
      exact zr_zret F hr rfl zd_XPicture_shows_38 (Nat.le_of_ble_eq_true rfl) (Nat.le_of_ble_eq_true rfl) ⟨by rw [sp_XPicture_shows, if_neg h1, if_neg h2], rfl, rfl⟩
    ·
      refine zr_iconstv (v := 1) F zd_XPicture_shows_33 (by decide) ?_
      refine zr_goto F 38 zd_XPicture_shows_34 (by decide) ?_
      exact zr_zret F hr rfl zd_XPicture_shows_38 (Nat.le_of_ble_eq_true rfl) (Nat.le_of_ble_eq_true rfl) ⟨by rw [sp_XPicture_shows, if_neg h1, if_pos h2], rfl, rfl⟩
abbrev zb_XPicture_isWhole : ByteArray := prog_6_method_6_code
def zy_XPicture_isWhole : MethodName := ⟨"OrreryBox$Picture", "isWhole", "()Z"⟩
theorem zc_XPicture_isWhole : Cond.code zy_XPicture_isWhole zb_XPicture_isWhole 1 (some .boolean) ∈ gw := gw_t 903 (by decide +kernel) rfl
theorem zq_XPicture_isWhole : zy_XPicture_isWhole.cls ≠ "java/lang/invoke/MethodHandle" ∧ zy_XPicture_isWhole.cls ≠ "java/lang/invoke/VarHandle" ∧ (parseMethodDescriptor zy_XPicture_isWhole.desc).map (fun d => d.parameters.length) = some 0 := by decide +kernel
theorem zd_XPicture_isWhole_0 : decode zb_XPicture_isWhole 0 = .ok (.aload_n 0, 1) := by decide +kernel
theorem zd_XPicture_isWhole_1 : decode zb_XPicture_isWhole 1 = .ok (.getfield 54, 3) := by decide +kernel
theorem zd_XPicture_isWhole_4 : decode zb_XPicture_isWhole 4 = .ok (.ifCond .eq 23, 3) := by decide +kernel
theorem zd_XPicture_isWhole_7 : decode zb_XPicture_isWhole 7 = .ok (.aload_n 0, 1) := by decide +kernel
theorem zd_XPicture_isWhole_8 : decode zb_XPicture_isWhole 8 = .ok (.getfield 58, 3) := by decide +kernel
theorem zd_XPicture_isWhole_11 : decode zb_XPicture_isWhole 11 = .ok (.lconst 1, 1) := by decide +kernel
theorem zd_XPicture_isWhole_12 : decode zb_XPicture_isWhole 12 = .ok (.aload_n 0, 1) := by decide +kernel
theorem zd_XPicture_isWhole_13 : decode zb_XPicture_isWhole 13 = .ok (.getfield 38, 3) := by decide +kernel
theorem zd_XPicture_isWhole_16 : decode zb_XPicture_isWhole 16 = .ok (.lshl, 1) := by decide +kernel
theorem zd_XPicture_isWhole_17 : decode zb_XPicture_isWhole 17 = .ok (.lconst 1, 1) := by decide +kernel
theorem zd_XPicture_isWhole_18 : decode zb_XPicture_isWhole 18 = .ok (.lsub, 1) := by decide +kernel
theorem zd_XPicture_isWhole_19 : decode zb_XPicture_isWhole 19 = .ok (.lcmp, 1) := by decide +kernel
theorem zd_XPicture_isWhole_20 : decode zb_XPicture_isWhole 20 = .ok (.ifCond .ne 7, 3) := by decide +kernel
theorem zd_XPicture_isWhole_23 : decode zb_XPicture_isWhole 23 = .ok (.iconst 1, 1) := by decide +kernel
theorem zd_XPicture_isWhole_24 : decode zb_XPicture_isWhole 24 = .ok (.goto 4, 3) := by decide +kernel
theorem zd_XPicture_isWhole_27 : decode zb_XPicture_isWhole 27 = .ok (.iconst 0, 1) := by decide +kernel
theorem zd_XPicture_isWhole_28 : decode zb_XPicture_isWhole 28 = .ok (.ireturn, 1) := by decide +kernel
def sp_XPicture_isWhole (pt : Int32) (pa : Nat) (pb : Nat) (ps : Value) (pw : Int32) (ph : Int32) (px : Int32) (pg : Int32) (pd : Nat) (pe : Nat) (pn : Int32) (pp : Nat) (bg : Int32) (dn : Int64) (p1 : Int32) (p2 : Int32) (p3 : Int32) (p4 : Int32) : Int32 := (if bg = 0 then 0 else (if (lg_cmp dn ((1 <<< ((pt : Int32).toInt64 &&& 63)) - 1)) = 0 then 1 else 0))
set_option maxHeartbeats 4000000 in
set_option maxRecDepth 100000 in
theorem c_XPicture_isWhole (l : Launch) (D : va_G) (tA : Nat → ClassId) (b : Nat) (f : zV) (n : Nat) (pt : Int32) (pa : Nat) (pb : Nat) (ps : Value) (pw : Int32) (ph : Int32) (px : Int32) (pg : Int32) (pd : Nat) (pe : Nat) (pn : Int32) (pp : Nat) (bg : Int32) (dn : Int64) (p1 : Int32) (p2 : Int32) (p3 : Int32) (p4 : Int32) (hp : f 1178 = some (.inr (5, [.int pt, .ref (b + pa), .ref (b + pb), ps, .int pw, .int ph, .int px, .int pg, .ref (b + pd), .ref (b + pe), .int pn, .ref (b + pp), .int bg, .long dn, .int p1, .int p2, .int p3, .int p4])))  : zM l D tA b zy_XPicture_isWhole zb_XPicture_isWhole 1 (some .boolean) 0 0 0 0 [.ref (b + 1178)] f n (zE (some (.int (sp_XPicture_isWhole pt pa pb ps pw ph px pg pd pe pn pp bg dn p1 p2 p3 p4))) f n) := by
  refine zM_of (own := "OrreryBox$Picture") (plainFor_of_name (by decide)) rfl (Nat.le_of_ble_eq_true rfl) (fun p e s m below meth c F hr hin hH => ?_)
  refine zr_aload_n F zd_XPicture_isWhole_0 rfl ?_
  refine zr_get F 5 12 zd_XPicture_isWhole_1 hp rfl (by decide) zw_445 rfl (by rfl) ?_
  refine zr_if_eq F 27 zd_XPicture_isWhole_4 (by decide) (fun h1 => ?_) (fun h1 => ?_)
  ·
    refine zr_iconstv (v := 0) F zd_XPicture_isWhole_27 (by decide) ?_
    exact zr_zret F hr rfl zd_XPicture_isWhole_28 (Nat.le_of_ble_eq_true rfl) (Nat.le_of_ble_eq_true rfl) ⟨by rw [sp_XPicture_isWhole, if_pos h1], rfl, rfl⟩
  ·
    refine zr_aload_n F zd_XPicture_isWhole_7 rfl ?_
    refine zr_get F 5 13 zd_XPicture_isWhole_8 hp rfl (by decide) zw_446 rfl (by rfl) ?_
    refine zr_lconstv (v := 1) F zd_XPicture_isWhole_11 (by decide) ?_
    refine zr_aload_n F zd_XPicture_isWhole_12 rfl ?_
    refine zr_get F 5 0 zd_XPicture_isWhole_13 hp rfl (by decide) zw_429 rfl (by rfl) ?_
    refine zr_lshl F zd_XPicture_isWhole_16 ?_
    refine zr_lconstv (v := 1) F zd_XPicture_isWhole_17 (by decide) ?_
    refine zr_lsub F zd_XPicture_isWhole_18 ?_
    refine zr_lcmp F zd_XPicture_isWhole_19 ?_
    refine zr_if_ne F 27 zd_XPicture_isWhole_20 (by decide) (fun h2 => ?_) (fun h2 => ?_)
    ·
      refine zr_iconstv (v := 0) F zd_XPicture_isWhole_27 (by decide) ?_
      exact zr_zret F hr rfl zd_XPicture_isWhole_28 (Nat.le_of_ble_eq_true rfl) (Nat.le_of_ble_eq_true rfl) ⟨by rw [sp_XPicture_isWhole, if_neg h1, if_neg h2], rfl, rfl⟩
    ·
      refine zr_iconstv (v := 1) F zd_XPicture_isWhole_23 (by decide) ?_
      refine zr_goto F 28 zd_XPicture_isWhole_24 (by decide) ?_
      exact zr_zret F hr rfl zd_XPicture_isWhole_28 (Nat.le_of_ble_eq_true rfl) (Nat.le_of_ble_eq_true rfl) ⟨by rw [sp_XPicture_isWhole, if_neg h1, if_pos h2], rfl, rfl⟩
abbrev zb_XScene_hasNode : ByteArray := prog_9_method_3_code
def zy_XScene_hasNode : MethodName := ⟨"OrreryBox$Scene", "hasNode", "(I)Z"⟩
theorem zc_XScene_hasNode : Cond.code zy_XScene_hasNode zb_XScene_hasNode 2 (some .boolean) ∈ gw := gw_t 589 (by decide +kernel) rfl
theorem zq_XScene_hasNode : zy_XScene_hasNode.cls ≠ "java/lang/invoke/MethodHandle" ∧ zy_XScene_hasNode.cls ≠ "java/lang/invoke/VarHandle" ∧ (parseMethodDescriptor zy_XScene_hasNode.desc).map (fun d => d.parameters.length) = some 1 := by decide +kernel
theorem zd_XScene_hasNode_0 : decode zb_XScene_hasNode 0 = .ok (.iload_n 1, 1) := by decide +kernel
theorem zd_XScene_hasNode_1 : decode zb_XScene_hasNode 1 = .ok (.ifCond .lt 17, 3) := by decide +kernel
theorem zd_XScene_hasNode_4 : decode zb_XScene_hasNode 4 = .ok (.iload_n 1, 1) := by decide +kernel
theorem zd_XScene_hasNode_5 : decode zb_XScene_hasNode 5 = .ok (.aload_n 0, 1) := by decide +kernel
theorem zd_XScene_hasNode_6 : decode zb_XScene_hasNode 6 = .ok (.getfield 9, 3) := by decide +kernel
theorem zd_XScene_hasNode_9 : decode zb_XScene_hasNode 9 = .ok (.iconst 3, 1) := by decide +kernel
theorem zd_XScene_hasNode_10 : decode zb_XScene_hasNode 10 = .ok (.iaload, 1) := by decide +kernel
theorem zd_XScene_hasNode_11 : decode zb_XScene_hasNode 11 = .ok (.if_icmp .ge 7, 3) := by decide +kernel
theorem zd_XScene_hasNode_14 : decode zb_XScene_hasNode 14 = .ok (.iconst 1, 1) := by decide +kernel
theorem zd_XScene_hasNode_15 : decode zb_XScene_hasNode 15 = .ok (.goto 4, 3) := by decide +kernel
theorem zd_XScene_hasNode_18 : decode zb_XScene_hasNode 18 = .ok (.iconst 0, 1) := by decide +kernel
theorem zd_XScene_hasNode_19 : decode zb_XScene_hasNode 19 = .ok (.ireturn, 1) := by decide +kernel
def sp_XScene_hasNode (k : Int32) (sc : Nat) (q : Nat) (nw : Int32) (pl : Int32) (gc : Nat → Int32) : Int32 := (if k < 0 then 0 else (if (gc (3 : Int32).toNatClampNeg) ≤ k then 0 else 1))
set_option maxHeartbeats 4000000 in
set_option maxRecDepth 100000 in
theorem c_XScene_hasNode (l : Launch) (D : va_G) (tA : Nat → ClassId) (b : Nat) (f : zV) (n : Nat) (k : Int32) (sc : Nat) (q : Nat) (nw : Int32) (pl : Int32) (gc : Nat → Int32) (hs : f sc = some (.inr (8, zsO b q nw pl))) (hc : f q = some (.inl (tA 0, 5, .inl (gc)))) (hq : sc < q) : zM l D tA b zy_XScene_hasNode zb_XScene_hasNode 2 (some .boolean) 0 0 0 0 [.ref (b + sc), .int k] f n (zE (some (.int (sp_XScene_hasNode k sc q nw pl gc))) f n) := by
  refine zM_of (own := "OrreryBox$Scene") (plainFor_of_name (by decide)) rfl (Nat.le_of_ble_eq_true rfl) (fun p e s m below meth c F hr hin hH => ?_)
  refine zr_iload_n F zd_XScene_hasNode_0 rfl ?_
  refine zr_if_lt F 18 zd_XScene_hasNode_1 (by decide) (fun h1 => ?_) (fun h1 => ?_)
  ·
    refine zr_iconstv (v := 0) F zd_XScene_hasNode_18 (by decide) ?_
    exact zr_zret F hr rfl zd_XScene_hasNode_19 (Nat.le_of_ble_eq_true rfl) (Nat.le_of_ble_eq_true rfl) ⟨by rw [sp_XScene_hasNode, if_pos h1], rfl, rfl⟩
  ·
    refine zr_iload_n F zd_XScene_hasNode_4 rfl ?_
    refine zr_aload_n F zd_XScene_hasNode_5 rfl ?_
    refine zr_get F 8 0 zd_XScene_hasNode_6 hs rfl (by decide) zw_281 rfl (by rfl) ?_
    refine zr_iconstv (v := 3) F zd_XScene_hasNode_9 (by decide) ?_
    refine zr_iald F zd_XScene_hasNode_10 hc (vp_in_nI (n := 3) (by decide) (by decide)) ?_
    refine zr_icmp_ge F 18 zd_XScene_hasNode_11 (by decide) (fun h2 => ?_) (fun h2 => ?_)
    ·
      refine zr_iconstv (v := 0) F zd_XScene_hasNode_18 (by decide) ?_
      exact zr_zret F hr rfl zd_XScene_hasNode_19 (Nat.le_of_ble_eq_true rfl) (Nat.le_of_ble_eq_true rfl) ⟨by rw [sp_XScene_hasNode, if_neg h1, if_pos h2], rfl, rfl⟩
    ·
      refine zr_iconstv (v := 1) F zd_XScene_hasNode_14 (by decide) ?_
      refine zr_goto F 19 zd_XScene_hasNode_15 (by decide) ?_
      exact zr_zret F hr rfl zd_XScene_hasNode_19 (Nat.le_of_ble_eq_true rfl) (Nat.le_of_ble_eq_true rfl) ⟨by rw [sp_XScene_hasNode, if_neg h1, if_neg h2], rfl, rfl⟩
theorem zx_out (x : Int32) (lo hi : Int) (h0 : 0 ≤ lo) (h1 : hi < 2 ^ 31 - 1) (h2 : lo ≤ hi) (hl : lo = 0) (h : ∀ j : Nat, (j : Int) ≤ hi → ¬ x = nI j) : x.toInt < lo ∨ hi < x.toInt := by
  by_cases a : x.toInt < lo
  · exact Or.inl a
  · refine Or.inr (Int.not_le.mp (fun q => ?_))
    have e : x = nI x.toInt.toNat := by
      apply Int32.toInt_inj.mp
      rw [nI_toInt (by omega)]
      omega
    exact h x.toInt.toNat (by omega) e
