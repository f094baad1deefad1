theorem zx_wi {v lo hi : Int32} (h : ¬ sp_OB_within v lo hi = 0) : lo ≤ v ∧ v ≤ hi := by
  unfold sp_OB_within at h
  split at h
  · rename_i a
    first
      | exact absurd rfl h
      | (split at h
         · rename_i c
           first | exact absurd rfl h | exact ⟨by first | exact a | exact Int32.not_lt.mp a, by first | exact c | exact Int32.not_lt.mp c⟩
         · rename_i c
           first | exact absurd rfl h | exact ⟨by first | exact a | exact Int32.not_lt.mp a, by first | exact c | exact Int32.not_lt.mp c⟩)
  · rename_i a
    first
      | exact absurd rfl h
      | (split at h
         · rename_i c
           first | exact absurd rfl h | exact ⟨by first | exact a | exact Int32.not_lt.mp a, by first | exact c | exact Int32.not_lt.mp c⟩
         · rename_i c
           first | exact absurd rfl h | exact ⟨by first | exact a | exact Int32.not_lt.mp a, by first | exact c | exact Int32.not_lt.mp c⟩)
theorem zx_wn {v : Int32} {N : Nat} {hi : Int32} (hN : N < 2 ^ 30) (hh : hi.toInt = (N : Int)) (h : ¬ sp_OB_within v 0 hi = 0) : ∃ j : Nat, j ≤ N ∧ v = nI j := by
  obtain ⟨a, c⟩ := zx_wi h
  exact nI_of2 hh (fun q => by rw [Int32.lt_iff_toInt_lt] at q; rw [Int32.le_iff_toInt_le] at a; omega) c
theorem zx_c7 {v : Int32} (h : ¬ sp_OB_within v 0 1 = 0) : vp_in (3 * v) 7 ∧ vp_in (3 * v + 1) 7 ∧ vp_in (3 * v + 2) 7 := by
  obtain ⟨j, hj, rfl⟩ := zx_wn (N := 1) (by decide) (by decide) h
  rcases (show j = 0 ∨ j = 1 by omega) with rfl | rfl
  · exact ⟨vp_in_nI (n := 0) (by decide) (by decide), vp_in_nI (n := 1) (by decide) (by decide), vp_in_nI (n := 2) (by decide) (by decide)⟩
  · exact ⟨vp_in_nI (n := 3) (by decide) (by decide), vp_in_nI (n := 4) (by decide) (by decide), vp_in_nI (n := 5) (by decide) (by decide)⟩
theorem zx_c5 {v : Int32} (h : ¬ sp_OB_within v 0 4 = 0) : vp_in v 5 := by
  obtain ⟨j, hj, rfl⟩ := zx_wn (N := 4) (by decide) (by decide) h
  exact vp_in_nI (by omega) (by decide)
theorem zx_cb {v : Int32} {z M : Nat} (hz : z ≤ M) (hM : M < 2 ^ 30) (h : ¬ sp_OB_within v 0 (nI z - 1) = 0) : vp_in v M := by
  obtain ⟨a, c⟩ := zx_wi h
  rcases Nat.eq_zero_or_pos z with q | q
  · subst q
    exfalso
    have e : (nI 0 - 1).toInt = -1 := by decide
    have e0 : (0 : Int32).toInt = 0 := by decide
    rw [Int32.le_iff_toInt_le] at a c
    omega
  · have e : nI z - 1 = nI (z - 1) := by
      have := nI_pred (z - 1)
      rwa [show z - 1 + 1 = z by omega] at this
    rw [e] at c
    obtain ⟨j, hj, rfl⟩ := nI_of2 (nI_toInt (by omega)) (fun q => by have e0 : (0 : Int32).toInt = 0 := (by decide); rw [Int32.lt_iff_toInt_lt] at q; rw [Int32.le_iff_toInt_le] at a; omega) c
    exact vp_in_nI (by omega) (by omega)
theorem zx_cf {v : Int32} {z M : Nat} (hz : z ≤ M) (hM : M < 2 ^ 30) (h0 : ¬ v < 0) (h : v < nI z) : vp_in v M := by
  obtain ⟨j, hj, rfl⟩ := nI_of h0
  rw [nI_ltI hj (by omega)] at h
  exact vp_in_nI (by omega) (by omega)
abbrev zb_OB_camera : ByteArray := prog_1_method_11_code
def zy_OB_camera : MethodName := ⟨"OrreryBox", "camera", "(IIII)Z"⟩
theorem zc_OB_camera : Cond.code zy_OB_camera zb_OB_camera 6 (some .boolean) ∈ gw := gw_t 609 (by decide +kernel) rfl
theorem zq_OB_camera : zy_OB_camera.cls ≠ "java/lang/invoke/MethodHandle" ∧ zy_OB_camera.cls ≠ "java/lang/invoke/VarHandle" ∧ (parseMethodDescriptor zy_OB_camera.desc).map (fun d => d.parameters.length) = some 4 := by decide +kernel
theorem zd_OB_camera_0 : decode zb_OB_camera 0 = .ok (.aload_n 0, 1) := by decide +kernel
theorem zd_OB_camera_1 : decode zb_OB_camera 1 = .ok (.getfield 49, 3) := by decide +kernel
theorem zd_OB_camera_4 : decode zb_OB_camera 4 = .ok (.getfield 136, 3) := by decide +kernel
theorem zd_OB_camera_7 : decode zb_OB_camera 7 = .ok (.astore 5, 2) := by decide +kernel
theorem zd_OB_camera_9 : decode zb_OB_camera 9 = .ok (.iload_n 1, 1) := by decide +kernel
theorem zd_OB_camera_10 : decode zb_OB_camera 10 = .ok (.iconst 2, 1) := by decide +kernel
theorem zd_OB_camera_11 : decode zb_OB_camera 11 = .ok (.if_icmp .ne 23, 3) := by decide +kernel
theorem zd_OB_camera_14 : decode zb_OB_camera 14 = .ok (.iload_n 2, 1) := by decide +kernel
theorem zd_OB_camera_15 : decode zb_OB_camera 15 = .ok (.bipush 8, 2) := by decide +kernel
theorem zd_OB_camera_17 : decode zb_OB_camera 17 = .ok (.sipush 512, 3) := by decide +kernel
theorem zd_OB_camera_20 : decode zb_OB_camera 20 = .ok (.invokestatic 97, 3) := by decide +kernel
theorem zd_OB_camera_23 : decode zb_OB_camera 23 = .ok (.ifCond .eq 11, 3) := by decide +kernel
theorem zd_OB_camera_26 : decode zb_OB_camera 26 = .ok (.aload 5, 2) := by decide +kernel
theorem zd_OB_camera_28 : decode zb_OB_camera 28 = .ok (.bipush 6, 2) := by decide +kernel
theorem zd_OB_camera_30 : decode zb_OB_camera 30 = .ok (.iload_n 2, 1) := by decide +kernel
theorem zd_OB_camera_31 : decode zb_OB_camera 31 = .ok (.iastore, 1) := by decide +kernel
theorem zd_OB_camera_32 : decode zb_OB_camera 32 = .ok (.iconst 1, 1) := by decide +kernel
theorem zd_OB_camera_33 : decode zb_OB_camera 33 = .ok (.ireturn, 1) := by decide +kernel
theorem zd_OB_camera_34 : decode zb_OB_camera 34 = .ok (.iload_n 1, 1) := by decide +kernel
theorem zd_OB_camera_35 : decode zb_OB_camera 35 = .ok (.iconst 0, 1) := by decide +kernel
theorem zd_OB_camera_36 : decode zb_OB_camera 36 = .ok (.iconst 1, 1) := by decide +kernel
theorem zd_OB_camera_37 : decode zb_OB_camera 37 = .ok (.invokestatic 97, 3) := by decide +kernel
theorem zd_OB_camera_40 : decode zb_OB_camera 40 = .ok (.ifCond .eq 17, 3) := by decide +kernel
theorem zd_OB_camera_43 : decode zb_OB_camera 43 = .ok (.iload_n 2, 1) := by decide +kernel
theorem zd_OB_camera_44 : decode zb_OB_camera 44 = .ok (.iload_n 3, 1) := by decide +kernel
theorem zd_OB_camera_45 : decode zb_OB_camera 45 = .ok (.iload 4, 2) := by decide +kernel
theorem zd_OB_camera_47 : decode zb_OB_camera 47 = .ok (.iload_n 1, 1) := by decide +kernel
theorem zd_OB_camera_48 : decode zb_OB_camera 48 = .ok (.invokestatic 109, 3) := by decide +kernel
theorem zd_OB_camera_51 : decode zb_OB_camera 51 = .ok (.invokestatic 113, 3) := by decide +kernel
theorem zd_OB_camera_54 : decode zb_OB_camera 54 = .ok (.ifCond .ne 5, 3) := by decide +kernel
theorem zd_OB_camera_57 : decode zb_OB_camera 57 = .ok (.iconst 0, 1) := by decide +kernel
theorem zd_OB_camera_58 : decode zb_OB_camera 58 = .ok (.ireturn, 1) := by decide +kernel
theorem zd_OB_camera_59 : decode zb_OB_camera 59 = .ok (.aload 5, 2) := by decide +kernel
theorem zd_OB_camera_61 : decode zb_OB_camera 61 = .ok (.iconst 3, 1) := by decide +kernel
theorem zd_OB_camera_62 : decode zb_OB_camera 62 = .ok (.iload_n 1, 1) := by decide +kernel
theorem zd_OB_camera_63 : decode zb_OB_camera 63 = .ok (.imul, 1) := by decide +kernel
theorem zd_OB_camera_64 : decode zb_OB_camera 64 = .ok (.iload_n 2, 1) := by decide +kernel
theorem zd_OB_camera_65 : decode zb_OB_camera 65 = .ok (.iastore, 1) := by decide +kernel
theorem zd_OB_camera_66 : decode zb_OB_camera 66 = .ok (.aload 5, 2) := by decide +kernel
theorem zd_OB_camera_68 : decode zb_OB_camera 68 = .ok (.iconst 3, 1) := by decide +kernel
theorem zd_OB_camera_69 : decode zb_OB_camera 69 = .ok (.iload_n 1, 1) := by decide +kernel
theorem zd_OB_camera_70 : decode zb_OB_camera 70 = .ok (.imul, 1) := by decide +kernel
theorem zd_OB_camera_71 : decode zb_OB_camera 71 = .ok (.iconst 1, 1) := by decide +kernel
theorem zd_OB_camera_72 : decode zb_OB_camera 72 = .ok (.iadd, 1) := by decide +kernel
theorem zd_OB_camera_73 : decode zb_OB_camera 73 = .ok (.iload_n 3, 1) := by decide +kernel
theorem zd_OB_camera_74 : decode zb_OB_camera 74 = .ok (.iastore, 1) := by decide +kernel
theorem zd_OB_camera_75 : decode zb_OB_camera 75 = .ok (.aload 5, 2) := by decide +kernel
theorem zd_OB_camera_77 : decode zb_OB_camera 77 = .ok (.iconst 3, 1) := by decide +kernel
theorem zd_OB_camera_78 : decode zb_OB_camera 78 = .ok (.iload_n 1, 1) := by decide +kernel
theorem zd_OB_camera_79 : decode zb_OB_camera 79 = .ok (.imul, 1) := by decide +kernel
theorem zd_OB_camera_80 : decode zb_OB_camera 80 = .ok (.iconst 2, 1) := by decide +kernel
theorem zd_OB_camera_81 : decode zb_OB_camera 81 = .ok (.iadd, 1) := by decide +kernel
theorem zd_OB_camera_82 : decode zb_OB_camera 82 = .ok (.iload 4, 2) := by decide +kernel
theorem zd_OB_camera_84 : decode zb_OB_camera 84 = .ok (.iastore, 1) := by decide +kernel
theorem zd_OB_camera_85 : decode zb_OB_camera 85 = .ok (.iconst 1, 1) := by decide +kernel
theorem zd_OB_camera_86 : decode zb_OB_camera 86 = .ok (.ireturn, 1) := by decide +kernel
theorem zw_304 : (Jvm.Cond.fieldLink "OrreryBox" (136 : Nat) "OrreryBox$Scene" "viewer" "[I") ∈ gw := gw_t 304 (by decide +kernel) rfl
theorem zw_590 : (Jvm.Cond.methodLink "OrreryBox" (109 : Nat) ({ cls := "OrreryBox", name := "reachOf", desc := "(I)I" } : Jvm.MethodName)) ∈ gw := gw_t 590 (by decide +kernel) rfl
theorem zw_591 : (Jvm.Cond.static ({ cls := "OrreryBox", name := "reachOf", desc := "(I)I" } : Jvm.MethodName)) ∈ gw := gw_t 591 (by decide +kernel) rfl
theorem zs_OB_109 : zwS "OrreryBox" 109 zy_OB_reachOf zb_OB_reachOf 1 (some .int) := ⟨zw_590, zw_591, zw_1, zc_OB_reachOf⟩
def sp_OB_camera (wt : Int32) (x : Int32) (y : Int32) (z : Int32) (w : Int32) (h : Int32) (tp : Int32) (sc : Nat) (gr : Int32) (pk : Int32) (q : Nat) (nw : Int32) (pl : Int32) (gv : Nat → Int32) : Int32 := (if wt = 2 then (if (sp_OB_within (x) (8) (512)) = 0 then (if (sp_OB_within (wt) (0) (1)) = 0 then 0 else (if (sp_OB_allWithin (x) (y) (z) ((sp_OB_reachOf (wt)))) = 0 then 0 else 1)) else 1) else (if (sp_OB_within (wt) (0) (1)) = 0 then 0 else (if (sp_OB_allWithin (x) (y) (z) ((sp_OB_reachOf (wt)))) = 0 then 0 else 1)))
def sw_OB_camera (tA : Nat → ClassId) (b : Nat) (f : zV) (wt : Int32) (x : Int32) (y : Int32) (z : Int32) (w : Int32) (h : Int32) (tp : Int32) (sc : Nat) (gr : Int32) (pk : Int32) (q : Nat) (nw : Int32) (pl : Int32) (gv : Nat → Int32) : zV := (if wt = 2 then (if (sp_OB_within (x) (8) (512)) = 0 then (if (sp_OB_within (wt) (0) (1)) = 0 then (f) else (if (sp_OB_allWithin (x) (y) (z) ((sp_OB_reachOf (wt)))) = 0 then (f) else (zu (f) ((q + 22)) (.inl (tA 0, 7, .inl (upd (upd (upd (gv) (((3 * wt)).toNatClampNeg) (x)) ((((3 * wt) + 1)).toNatClampNeg) (y)) ((((3 * wt) + 2)).toNatClampNeg) (z))))))) else (zu (f) ((q + 22)) (.inl (tA 0, 7, .inl (upd (gv) ((6 : Int32).toNatClampNeg) (x)))))) else (if (sp_OB_within (wt) (0) (1)) = 0 then (f) else (if (sp_OB_allWithin (x) (y) (z) ((sp_OB_reachOf (wt)))) = 0 then (f) else (zu (f) ((q + 22)) (.inl (tA 0, 7, .inl (upd (upd (upd (gv) (((3 * wt)).toNatClampNeg) (x)) ((((3 * wt) + 1)).toNatClampNeg) (y)) ((((3 * wt) + 2)).toNatClampNeg) (z))))))))
set_option maxHeartbeats 4000000 in
set_option maxRecDepth 100000 in
theorem c_OB_camera (l : Launch) (D : va_G) (tA : Nat → ClassId) (b : Nat) (f : zV) (n : Nat) (wt : Int32) (x : Int32) (y : Int32) (z : Int32) (w : Int32) (h : Int32) (tp : Int32) (sc : Nat) (gr : Int32) (pk : Int32) (q : Nat) (nw : Int32) (pl : Int32) (gv : Nat → Int32) (hf : f 0 = some (.inr (0, [.int w, .int h, .ref (b + 1), .int tp, .ref (b + 2), .ref (b + sc), .ref (b + 3), .ref (b + 1121), .ref (b + 1178), .ref (b + 5), .int gr, .int pk]))) (hs : f sc = some (.inr (8, zsO b q nw pl))) (hv : f ((q + 22)) = some (.inl (tA 0, 7, .inl (gv)))) (hq : 0 < sc ∧ sc < q) : zM l D tA b zy_OB_camera zb_OB_camera 6 (some .boolean) 2 45 0 0 [.ref (b + 0), .int wt, .int x, .int y, .int z] f n (zE (some (.int (sp_OB_camera wt x y z w h tp sc gr pk q nw pl gv))) (sw_OB_camera tA b f wt x y z w h tp sc gr pk q nw pl gv) n) := by
  refine zM_of (own := "OrreryBox") (plainFor_of_name (by decide)) rfl (Nat.le_of_ble_eq_true rfl) (fun p e s m below meth c F hr hin hH => ?_)
  refine zr_aload_n F zd_OB_camera_0 rfl ?_
  refine zr_get F 0 5 zd_OB_camera_1 hf rfl (by decide) zw_493 rfl (by rfl) ?_
  refine zr_get F 8 6 zd_OB_camera_4 hs rfl (by decide) zw_304 rfl (by rfl) ?_
  refine zr_astore F zd_OB_camera_7 (by decide) ?_
  refine zr_iload_n F zd_OB_camera_9 rfl ?_
  refine zr_iconstv (v := 2) F zd_OB_camera_10 (by decide) ?_
  refine zr_icmp_ne F 34 zd_OB_camera_11 (by decide) (fun h1 => ?_) (fun h1 => ?_)
  ·
    refine zr_iload_n F zd_OB_camera_34 rfl ?_
    refine zr_iconstv (v := 0) F zd_OB_camera_35 (by decide) ?_
    refine zr_iconstv (v := 1) F zd_OB_camera_36 (by decide) ?_
    refine zr_callS1 F (c_OB_within l D tA b _ _ (wt) (0) (1)) zd_OB_camera_37 zs_OB_97 zq_OB_within rfl rfl ⟨(Nat.le_of_ble_eq_true rfl), (Nat.le_of_ble_eq_true rfl)⟩ (Nat.le_of_ble_eq_true rfl) ⟨(Nat.le_of_ble_eq_true rfl), (Nat.le_of_ble_eq_true rfl)⟩ ?_
    refine zr_if_eq F 57 zd_OB_camera_40 (by decide) (fun h2 => ?_) (fun h2 => ?_)
    ·
      refine zr_iconstv (v := 0) F zd_OB_camera_57 (by decide) ?_
      exact zr_zret F hr rfl zd_OB_camera_58 (Nat.le_of_ble_eq_true rfl) (Nat.le_of_ble_eq_true rfl) ⟨by rw [sp_OB_camera, if_neg h1, if_pos h2], by rw [sw_OB_camera, if_neg h1, if_pos h2], rfl⟩
    ·
      refine zr_iload_n F zd_OB_camera_43 rfl ?_
      refine zr_iload_n F zd_OB_camera_44 rfl ?_
      refine zr_iload F zd_OB_camera_45 rfl ?_
      refine zr_iload_n F zd_OB_camera_47 rfl ?_
      refine zr_callS1 F (c_OB_reachOf l D tA b _ _ (wt)) zd_OB_camera_48 zs_OB_109 zq_OB_reachOf rfl rfl ⟨(Nat.le_of_ble_eq_true rfl), (Nat.le_of_ble_eq_true rfl)⟩ (Nat.le_of_ble_eq_true rfl) ⟨(Nat.le_of_ble_eq_true rfl), (Nat.le_of_ble_eq_true rfl)⟩ ?_
      refine zr_callS1 F (c_OB_allWithin l D tA b _ _ (x) (y) (z) ((sp_OB_reachOf (wt)))) zd_OB_camera_51 zs_OB_113 zq_OB_allWithin rfl rfl ⟨(Nat.le_of_ble_eq_true rfl), (Nat.le_of_ble_eq_true rfl)⟩ (Nat.le_of_ble_eq_true rfl) ⟨(Nat.le_of_ble_eq_true rfl), (Nat.le_of_ble_eq_true rfl)⟩ ?_
      refine zr_if_ne F 59 zd_OB_camera_54 (by decide) (fun h3 => ?_) (fun h3 => ?_)
      ·
        refine zr_aload F zd_OB_camera_59 rfl ?_
        refine zr_iconstv (v := 3) F zd_OB_camera_61 (by decide) ?_
        refine zr_iload_n F zd_OB_camera_62 rfl ?_
        refine zr_imul F zd_OB_camera_63 ?_
        refine zr_iload_n F zd_OB_camera_64 rfl ?_
        refine zr_iast F zd_OB_camera_65 hv (zx_c7 (by assumption)).1 ?_
        refine zr_norm (zu (f) ((q + 22)) (.inl (tA 0, 7, .inl (upd (gv) (((3 * wt)).toNatClampNeg) (x))))) _ (rfl) rfl ?_
        refine zr_aload F zd_OB_camera_66 rfl ?_
        refine zr_iconstv (v := 3) F zd_OB_camera_68 (by decide) ?_
        refine zr_iload_n F zd_OB_camera_69 rfl ?_
        refine zr_imul F zd_OB_camera_70 ?_
        refine zr_iconstv (v := 1) F zd_OB_camera_71 (by decide) ?_
        refine zr_iadd F zd_OB_camera_72 ?_
        refine zr_iload_n F zd_OB_camera_73 rfl ?_
        refine zr_iast F zd_OB_camera_74 (zu_s _ _ _) (zx_c7 (by assumption)).2.1 ?_
        refine zr_norm (zu (f) ((q + 22)) (.inl (tA 0, 7, .inl (upd (upd (gv) (((3 * wt)).toNatClampNeg) (x)) ((((3 * wt) + 1)).toNatClampNeg) (y))))) _ (zu_zu _ _ _ _) rfl ?_
        refine zr_aload F zd_OB_camera_75 rfl ?_
        refine zr_iconstv (v := 3) F zd_OB_camera_77 (by decide) ?_
        refine zr_iload_n F zd_OB_camera_78 rfl ?_
        refine zr_imul F zd_OB_camera_79 ?_
        refine zr_iconstv (v := 2) F zd_OB_camera_80 (by decide) ?_
        refine zr_iadd F zd_OB_camera_81 ?_
        refine zr_iload F zd_OB_camera_82 rfl ?_
        refine zr_iast F zd_OB_camera_84 (zu_s _ _ _) (zx_c7 (by assumption)).2.2 ?_
        refine zr_norm (zu (f) ((q + 22)) (.inl (tA 0, 7, .inl (upd (upd (upd (gv) (((3 * wt)).toNatClampNeg) (x)) ((((3 * wt) + 1)).toNatClampNeg) (y)) ((((3 * wt) + 2)).toNatClampNeg) (z))))) _ (zu_zu _ _ _ _) rfl ?_
        refine zr_iconstv (v := 1) F zd_OB_camera_85 (by decide) ?_
        exact zr_zret F hr rfl zd_OB_camera_86 (Nat.le_of_ble_eq_true rfl) (Nat.le_of_ble_eq_true rfl) ⟨by rw [sp_OB_camera, if_neg h1, if_neg h2, if_neg h3], by rw [sw_OB_camera, if_neg h1, if_neg h2, if_neg h3], rfl⟩
      ·
        refine zr_iconstv (v := 0) F zd_OB_camera_57 (by decide) ?_
        exact zr_zret F hr rfl zd_OB_camera_58 (Nat.le_of_ble_eq_true rfl) (Nat.le_of_ble_eq_true rfl) ⟨by rw [sp_OB_camera, if_neg h1, if_neg h2, if_pos h3], by rw [sw_OB_camera, if_neg h1, if_neg h2, if_pos h3], rfl⟩
  ·
    refine zr_iload_n F zd_OB_camera_14 rfl ?_
    refine zr_bipushv (v := 8) F zd_OB_camera_15 (by decide) ?_
    refine zr_sipushv (v := 512) F zd_OB_camera_17 (by decide) ?_
    refine zr_callS1 F (c_OB_within l D tA b _ _ (x) (8) (512)) zd_OB_camera_20 zs_OB_97 zq_OB_within rfl rfl ⟨(Nat.le_of_ble_eq_true rfl), (Nat.le_of_ble_eq_true rfl)⟩ (Nat.le_of_ble_eq_true rfl) ⟨(Nat.le_of_ble_eq_true rfl), (Nat.le_of_ble_eq_true rfl)⟩ ?_
    refine zr_if_eq F 34 zd_OB_camera_23 (by decide) (fun h4 => ?_) (fun h4 => ?_)
    ·
      refine zr_iload_n F zd_OB_camera_34 rfl ?_
      refine zr_iconstv (v := 0) F zd_OB_camera_35 (by decide) ?_
      refine zr_iconstv (v := 1) F zd_OB_camera_36 (by decide) ?_
      refine zr_callS1 F (c_OB_within l D tA b _ _ (wt) (0) (1)) zd_OB_camera_37 zs_OB_97 zq_OB_within rfl rfl ⟨(Nat.le_of_ble_eq_true rfl), (Nat.le_of_ble_eq_true rfl)⟩ (Nat.le_of_ble_eq_true rfl) ⟨(Nat.le_of_ble_eq_true rfl), (Nat.le_of_ble_eq_true rfl)⟩ ?_
      refine zr_if_eq F 57 zd_OB_camera_40 (by decide) (fun h5 => ?_) (fun h5 => ?_)
      ·
        refine zr_iconstv (v := 0) F zd_OB_camera_57 (by decide) ?_
        exact zr_zret F hr rfl zd_OB_camera_58 (Nat.le_of_ble_eq_true rfl) (Nat.le_of_ble_eq_true rfl) ⟨by rw [sp_OB_camera, if_pos h1, if_pos h4, if_pos h5], by rw [sw_OB_camera, if_pos h1, if_pos h4, if_pos h5], rfl⟩
      ·
        refine zr_iload_n F zd_OB_camera_43 rfl ?_
        refine zr_iload_n F zd_OB_camera_44 rfl ?_
        refine zr_iload F zd_OB_camera_45 rfl ?_
        refine zr_iload_n F zd_OB_camera_47 rfl ?_
        refine zr_callS1 F (c_OB_reachOf l D tA b _ _ (wt)) zd_OB_camera_48 zs_OB_109 zq_OB_reachOf rfl rfl ⟨(Nat.le_of_ble_eq_true rfl), (Nat.le_of_ble_eq_true rfl)⟩ (Nat.le_of_ble_eq_true rfl) ⟨(Nat.le_of_ble_eq_true rfl), (Nat.le_of_ble_eq_true rfl)⟩ ?_
        refine zr_callS1 F (c_OB_allWithin l D tA b _ _ (x) (y) (z) ((sp_OB_reachOf (wt)))) zd_OB_camera_51 zs_OB_113 zq_OB_allWithin rfl rfl ⟨(Nat.le_of_ble_eq_true rfl), (Nat.le_of_ble_eq_true rfl)⟩ (Nat.le_of_ble_eq_true rfl) ⟨(Nat.le_of_ble_eq_true rfl), (Nat.le_of_ble_eq_true rfl)⟩ ?_
        refine zr_if_ne F 59 zd_OB_camera_54 (by decide) (fun h6 => ?_) (fun h6 => ?_)
        ·
          refine zr_aload F zd_OB_camera_59 rfl ?_
          refine zr_iconstv (v := 3) F zd_OB_camera_61 (by decide) ?_
          refine zr_iload_n F zd_OB_camera_62 rfl ?_
          refine zr_imul F zd_OB_camera_63 ?_
          refine zr_iload_n F zd_OB_camera_64 rfl ?_
          refine zr_iast F zd_OB_camera_65 hv (zx_c7 (by assumption)).1 ?_
          refine zr_norm (zu (f) ((q + 22)) (.inl (tA 0, 7, .inl (upd (gv) (((3 * wt)).toNatClampNeg) (x))))) _ (rfl) rfl ?_
          refine zr_aload F zd_OB_camera_66 rfl ?_
          refine zr_iconstv (v := 3) F zd_OB_camera_68 (by decide) ?_
          refine zr_iload_n F zd_OB_camera_69 rfl ?_
          refine zr_imul F zd_OB_camera_70 ?_
          refine zr_iconstv (v := 1) F zd_OB_camera_71 (by decide) ?_
          refine zr_iadd F zd_OB_camera_72 ?_
          refine zr_iload_n F zd_OB_camera_73 rfl ?_
          refine zr_iast F zd_OB_camera_74 (zu_s _ _ _) (zx_c7 (by assumption)).2.1 ?_
          refine zr_norm (zu (f) ((q + 22)) (.inl (tA 0, 7, .inl (upd (upd (gv) (((3 * wt)).toNatClampNeg) (x)) ((((3 * wt) + 1)).toNatClampNeg) (y))))) _ (zu_zu _ _ _ _) rfl ?_
          refine zr_aload F zd_OB_camera_75 rfl ?_
          refine zr_iconstv (v := 3) F zd_OB_camera_77 (by decide) ?_
          refine zr_iload_n F zd_OB_camera_78 rfl ?_
          refine zr_imul F zd_OB_camera_79 ?_
          refine zr_iconstv (v := 2) F zd_OB_camera_80 (by decide) ?_
          refine zr_iadd F zd_OB_camera_81 ?_
          refine zr_iload F zd_OB_camera_82 rfl ?_
          refine zr_iast F zd_OB_camera_84 (zu_s _ _ _) (zx_c7 (by assumption)).2.2 ?_
          refine zr_norm (zu (f) ((q + 22)) (.inl (tA 0, 7, .inl (upd (upd (upd (gv) (((3 * wt)).toNatClampNeg) (x)) ((((3 * wt) + 1)).toNatClampNeg) (y)) ((((3 * wt) + 2)).toNatClampNeg) (z))))) _ (zu_zu _ _ _ _) rfl ?_
          refine zr_iconstv (v := 1) F zd_OB_camera_85 (by decide) ?_
          exact zr_zret F hr rfl zd_OB_camera_86 (Nat.le_of_ble_eq_true rfl) (Nat.le_of_ble_eq_true rfl) ⟨by rw [sp_OB_camera, if_pos h1, if_pos h4, if_neg h5, if_neg h6], by rw [sw_OB_camera, if_pos h1, if_pos h4, if_neg h5, if_neg h6], rfl⟩
        ·
          refine zr_iconstv (v := 0) F zd_OB_camera_57 (by decide) ?_
          exact zr_zret F hr rfl zd_OB_camera_58 (Nat.le_of_ble_eq_true rfl) (Nat.le_of_ble_eq_true rfl) ⟨by rw [sp_OB_camera, if_pos h1, if_pos h4, if_neg h5, if_pos h6], by rw [sw_OB_camera, if_pos h1, if_pos h4, if_neg h5, if_pos h6], rfl⟩
    ·
      refine zr_aload F zd_OB_camera_26 rfl ?_
      refine zr_bipushv (v := 6) F zd_OB_camera_28 (by decide) ?_
      refine zr_iload_n F zd_OB_camera_30 rfl ?_
      refine zr_iast F zd_OB_camera_31 hv (vp_in_nI (n := 6) (by decide) (by decide)) ?_
      refine zr_norm (zu (f) ((q + 22)) (.inl (tA 0, 7, .inl (upd (gv) ((6 : Int32).toNatClampNeg) (x))))) _ (rfl) rfl ?_
      refine zr_iconstv (v := 1) F zd_OB_camera_32 (by decide) ?_
      exact zr_zret F hr rfl zd_OB_camera_33 (Nat.le_of_ble_eq_true rfl) (Nat.le_of_ble_eq_true rfl) ⟨by rw [sp_OB_camera, if_pos h1, if_neg h4], by rw [sw_OB_camera, if_pos h1, if_neg h4], rfl⟩
abbrev zb_OB_count : ByteArray := prog_1_method_6_code
def zy_OB_count : MethodName := ⟨"OrreryBox", "count", "(I)I"⟩
theorem zc_OB_count : Cond.code zy_OB_count zb_OB_count 2 (some .int) ∈ gw := gw_t 544 (by decide +kernel) rfl
theorem zq_OB_count : zy_OB_count.cls ≠ "java/lang/invoke/MethodHandle" ∧ zy_OB_count.cls ≠ "java/lang/invoke/VarHandle" ∧ (parseMethodDescriptor zy_OB_count.desc).map (fun d => d.parameters.length) = some 1 := by decide +kernel
theorem zd_OB_count_0 : decode zb_OB_count 0 = .ok (.iload_n 1, 1) := by decide +kernel
theorem zd_OB_count_1 : decode zb_OB_count 1 = .ok (.iconst 5, 1) := by decide +kernel
theorem zd_OB_count_2 : decode zb_OB_count 2 = .ok (.if_icmp .ne 11, 3) := by decide +kernel
theorem zd_OB_count_5 : decode zb_OB_count 5 = .ok (.aload_n 0, 1) := by decide +kernel
theorem zd_OB_count_6 : decode zb_OB_count 6 = .ok (.getfield 49, 3) := by decide +kernel
theorem zd_OB_count_9 : decode zb_OB_count 9 = .ok (.getfield 94, 3) := by decide +kernel
theorem zd_OB_count_12 : decode zb_OB_count 12 = .ok (.ireturn, 1) := by decide +kernel
theorem zd_OB_count_13 : decode zb_OB_count 13 = .ok (.iload_n 1, 1) := by decide +kernel
theorem zd_OB_count_14 : decode zb_OB_count 14 = .ok (.iconst 0, 1) := by decide +kernel
theorem zd_OB_count_15 : decode zb_OB_count 15 = .ok (.iconst 4, 1) := by decide +kernel
theorem zd_OB_count_16 : decode zb_OB_count 16 = .ok (.invokestatic 97, 3) := by decide +kernel
theorem zd_OB_count_19 : decode zb_OB_count 19 = .ok (.ifCond .eq 15, 3) := by decide +kernel
theorem zd_OB_count_22 : decode zb_OB_count 22 = .ok (.aload_n 0, 1) := by decide +kernel
theorem zd_OB_count_23 : decode zb_OB_count 23 = .ok (.getfield 49, 3) := by decide +kernel
theorem zd_OB_count_26 : decode zb_OB_count 26 = .ok (.getfield 84, 3) := by decide +kernel
theorem zd_OB_count_29 : decode zb_OB_count 29 = .ok (.iload_n 1, 1) := by decide +kernel
theorem zd_OB_count_30 : decode zb_OB_count 30 = .ok (.iaload, 1) := by decide +kernel
theorem zd_OB_count_31 : decode zb_OB_count 31 = .ok (.goto 4, 3) := by decide +kernel
theorem zd_OB_count_34 : decode zb_OB_count 34 = .ok (.iconst (-1), 1) := by decide +kernel
theorem zd_OB_count_35 : decode zb_OB_count 35 = .ok (.ireturn, 1) := by decide +kernel
theorem zw_283 : (Jvm.Cond.fieldLink "OrreryBox" (84 : Nat) "OrreryBox$Scene" "counts" "[I") ∈ gw := gw_t 283 (by decide +kernel) rfl
theorem zw_310 : (Jvm.Cond.fieldLink "OrreryBox" (94 : Nat) "OrreryBox$Scene" "now" "I") ∈ gw := gw_t 310 (by decide +kernel) rfl
def sp_OB_count (k : Int32) (w : Int32) (h : Int32) (tp : Int32) (sc : Nat) (gr : Int32) (pk : Int32) (q : Nat) (nw : Int32) (pl : Int32) (gc : Nat → Int32) : Int32 := (if k = 5 then nw else (if (sp_OB_within (k) (0) (4)) = 0 then (-1) else (gc (k).toNatClampNeg)))
set_option maxHeartbeats 4000000 in
set_option maxRecDepth 100000 in
theorem c_OB_count (l : Launch) (D : va_G) (tA : Nat → ClassId) (b : Nat) (f : zV) (n : Nat) (k : Int32) (w : Int32) (h : Int32) (tp : Int32) (sc : Nat) (gr : Int32) (pk : Int32) (q : Nat) (nw : Int32) (pl : Int32) (gc : Nat → Int32) (hf : f 0 = some (.inr (0, [.int w, .int h, .ref (b + 1), .int tp, .ref (b + 2), .ref (b + sc), .ref (b + 3), .ref (b + 1121), .ref (b + 1178), .ref (b + 5), .int gr, .int pk]))) (hs : f sc = some (.inr (8, zsO b q nw pl))) (hc : f q = some (.inl (tA 0, 5, .inl (gc)))) (hq : 0 < sc ∧ sc < q) : zM l D tA b zy_OB_count zb_OB_count 2 (some .int) 1 22 0 0 [.ref (b + 0), .int k] f n (zE (some (.int (sp_OB_count k w h tp sc gr pk q nw pl gc))) f n) := by
  refine zM_of (own := "OrreryBox") (plainFor_of_name (by decide)) rfl (Nat.le_of_ble_eq_true rfl) (fun p e s m below meth c F hr hin hH => ?_)
  refine zr_iload_n F zd_OB_count_0 rfl ?_
  refine zr_iconstv (v := 5) F zd_OB_count_1 (by decide) ?_
  refine zr_icmp_ne F 13 zd_OB_count_2 (by decide) (fun h1 => ?_) (fun h1 => ?_)
  ·
    refine zr_iload_n F zd_OB_count_13 rfl ?_
    refine zr_iconstv (v := 0) F zd_OB_count_14 (by decide) ?_
    refine zr_iconstv (v := 4) F zd_OB_count_15 (by decide) ?_
    refine zr_callS1 F (c_OB_within l D tA b _ _ (k) (0) (4)) zd_OB_count_16 zs_OB_97 zq_OB_within rfl rfl ⟨(Nat.le_of_ble_eq_true rfl), (Nat.le_of_ble_eq_true rfl)⟩ (Nat.le_of_ble_eq_true rfl) ⟨(Nat.le_of_ble_eq_true rfl), (Nat.le_of_ble_eq_true rfl)⟩ ?_
    refine zr_if_eq F 34 zd_OB_count_19 (by decide) (fun h2 => ?_) (fun h2 => ?_)
    ·
      refine zr_iconstv (v := (-1)) F zd_OB_count_34 (by decide) ?_
      exact zr_iret F hr zd_OB_count_35 (Nat.le_of_ble_eq_true rfl) (Nat.le_of_ble_eq_true rfl) ⟨by rw [sp_OB_count, if_neg h1, if_pos h2], rfl, rfl⟩
    ·
      refine zr_aload_n F zd_OB_count_22 rfl ?_
      refine zr_get F 0 5 zd_OB_count_23 hf rfl (by decide) zw_493 rfl (by rfl) ?_
      refine zr_get F 8 0 zd_OB_count_26 hs rfl (by decide) zw_283 rfl (by rfl) ?_
      refine zr_iload_n F zd_OB_count_29 rfl ?_
      refine zr_iald F zd_OB_count_30 hc (zx_c5 (by assumption)) ?_
      refine zr_goto F 35 zd_OB_count_31 (by decide) ?_
      exact zr_iret F hr zd_OB_count_35 (Nat.le_of_ble_eq_true rfl) (Nat.le_of_ble_eq_true rfl) ⟨by rw [sp_OB_count, if_neg h1, if_neg h2], rfl, rfl⟩
  ·
    refine zr_aload_n F zd_OB_count_5 rfl ?_
    refine zr_get F 0 5 zd_OB_count_6 hf rfl (by decide) zw_493 rfl (by rfl) ?_
    refine zr_get F 8 8 zd_OB_count_9 hs rfl (by decide) zw_310 rfl (by rfl) ?_
    exact zr_iret F hr zd_OB_count_12 (Nat.le_of_ble_eq_true rfl) (Nat.le_of_ble_eq_true rfl) ⟨by rw [sp_OB_count, if_pos h1], rfl, rfl⟩
abbrev zb_MD_count : ByteArray := prog_14_method_8_code
def zy_MD_count : MethodName := ⟨"OrreryBoxModel", "count", "(I)I"⟩
theorem zc_MD_count : Cond.code zy_MD_count zb_MD_count 2 (some .int) ∈ gw := gw_t 1929 (by decide +kernel) rfl
theorem zq_MD_count : zy_MD_count.cls ≠ "java/lang/invoke/MethodHandle" ∧ zy_MD_count.cls ≠ "java/lang/invoke/VarHandle" ∧ (parseMethodDescriptor zy_MD_count.desc).map (fun d => d.parameters.length) = some 1 := by decide +kernel
theorem zd_MD_count_0 : decode zb_MD_count 0 = .ok (.aload_n 0, 1) := by decide +kernel
theorem zd_MD_count_1 : decode zb_MD_count 1 = .ok (.iconst 0, 1) := by decide +kernel
theorem zd_MD_count_2 : decode zb_MD_count 2 = .ok (.putfield 80, 3) := by decide +kernel
theorem zd_MD_count_5 : decode zb_MD_count 5 = .ok (.iload_n 1, 1) := by decide +kernel
theorem zd_MD_count_6 : decode zb_MD_count 6 = .ok (.tableswitch 83 0 5 #[38, 46, 54, 62, 70, 78], 38) := by decide +kernel
theorem zd_MD_count_44 : decode zb_MD_count 44 = .ok (.aload_n 0, 1) := by decide +kernel
theorem zd_MD_count_45 : decode zb_MD_count 45 = .ok (.getfield 17, 3) := by decide +kernel
theorem zd_MD_count_48 : decode zb_MD_count 48 = .ok (.getfield 116, 3) := by decide +kernel
theorem zd_MD_count_51 : decode zb_MD_count 51 = .ok (.ireturn, 1) := by decide +kernel
theorem zd_MD_count_52 : decode zb_MD_count 52 = .ok (.aload_n 0, 1) := by decide +kernel
theorem zd_MD_count_53 : decode zb_MD_count 53 = .ok (.getfield 17, 3) := by decide +kernel
theorem zd_MD_count_56 : decode zb_MD_count 56 = .ok (.getfield 119, 3) := by decide +kernel
theorem zd_MD_count_59 : decode zb_MD_count 59 = .ok (.ireturn, 1) := by decide +kernel
theorem zd_MD_count_60 : decode zb_MD_count 60 = .ok (.aload_n 0, 1) := by decide +kernel
theorem zd_MD_count_61 : decode zb_MD_count 61 = .ok (.getfield 17, 3) := by decide +kernel
theorem zd_MD_count_64 : decode zb_MD_count 64 = .ok (.getfield 122, 3) := by decide +kernel
theorem zd_MD_count_67 : decode zb_MD_count 67 = .ok (.ireturn, 1) := by decide +kernel
theorem zd_MD_count_68 : decode zb_MD_count 68 = .ok (.aload_n 0, 1) := by decide +kernel
theorem zd_MD_count_69 : decode zb_MD_count 69 = .ok (.getfield 17, 3) := by decide +kernel
theorem zd_MD_count_72 : decode zb_MD_count 72 = .ok (.getfield 113, 3) := by decide +kernel
theorem zd_MD_count_75 : decode zb_MD_count 75 = .ok (.ireturn, 1) := by decide +kernel
theorem zd_MD_count_76 : decode zb_MD_count 76 = .ok (.aload_n 0, 1) := by decide +kernel
theorem zd_MD_count_77 : decode zb_MD_count 77 = .ok (.getfield 17, 3) := by decide +kernel
theorem zd_MD_count_80 : decode zb_MD_count 80 = .ok (.getfield 125, 3) := by decide +kernel
theorem zd_MD_count_83 : decode zb_MD_count 83 = .ok (.ireturn, 1) := by decide +kernel
theorem zd_MD_count_84 : decode zb_MD_count 84 = .ok (.aload_n 0, 1) := by decide +kernel
theorem zd_MD_count_85 : decode zb_MD_count 85 = .ok (.getfield 110, 3) := by decide +kernel
theorem zd_MD_count_88 : decode zb_MD_count 88 = .ok (.ireturn, 1) := by decide +kernel
theorem zd_MD_count_89 : decode zb_MD_count 89 = .ok (.iconst (-1), 1) := by decide +kernel
theorem zd_MD_count_90 : decode zb_MD_count 90 = .ok (.ireturn, 1) := by decide +kernel
theorem zw_1316 : (Jvm.Cond.fieldLink "OrreryBoxModel" (116 : Nat) "OrreryBoxModel$Scene" "textures" "I") ∈ gw := gw_t 1316 (by decide +kernel) rfl
theorem zw_1319 : (Jvm.Cond.fieldLink "OrreryBoxModel" (119 : Nat) "OrreryBoxModel$Scene" "materials" "I") ∈ gw := gw_t 1319 (by decide +kernel) rfl
theorem zw_1322 : (Jvm.Cond.fieldLink "OrreryBoxModel" (122 : Nat) "OrreryBoxModel$Scene" "meshes" "I") ∈ gw := gw_t 1322 (by decide +kernel) rfl
theorem zw_1325 : (Jvm.Cond.fieldLink "OrreryBoxModel" (113 : Nat) "OrreryBoxModel$Scene" "nodes" "I") ∈ gw := gw_t 1325 (by decide +kernel) rfl
theorem zw_1329 : (Jvm.Cond.fieldLink "OrreryBoxModel" (125 : Nat) "OrreryBoxModel$Scene" "tracks" "I") ∈ gw := gw_t 1329 (by decide +kernel) rfl
theorem zw_1690 : (Jvm.Cond.fieldLink "OrreryBoxModel" (110 : Nat) "OrreryBoxModel" "time" "I") ∈ gw := gw_t 1690 (by decide +kernel) rfl
def sp_MD_count (k : Int32) (w : Int32) (h : Int32) (tp : Int32) (ti : Int32) (th : Int32) (wk : Int32) (wa : Int32) (bg : Int32) (pk : Int32) (t0 : Int32) (t1 : Int32) (t2 : Int32) (t3 : Int32) (t4 : Int32) (fo : Int32) (am0 : Int32) : Int32 := (if k = 0 then t0 else (if k = 1 then t1 else (if k = 2 then t2 else (if k = 3 then t3 else (if k = 4 then t4 else (if k = 5 then ti else (-1)))))))
def sw_MD_count (tA : Nat → ClassId) (b : Nat) (f : zV) (k : Int32) (w : Int32) (h : Int32) (tp : Int32) (ti : Int32) (th : Int32) (wk : Int32) (wa : Int32) (bg : Int32) (pk : Int32) (t0 : Int32) (t1 : Int32) (t2 : Int32) (t3 : Int32) (t4 : Int32) (fo : Int32) (am0 : Int32) : zV := (if k = 0 then (zu (f) 1185 (.inr (1, [.int w, .int h, .ref (b + 1186), .int tp, .ref (b + 1187), .ref (b + 1217), .ref (b + 1247), .ref (b + 1277), .ref (b + 1285), .ref (b + 1278), .int ti, .int 0, .int wk, .int wa, .ref (b + 1281), .int bg, .ref (b + 1282), .ref (b + 1283), .ref (b + 1284), .int pk]))) else (if k = 1 then (zu (f) 1185 (.inr (1, [.int w, .int h, .ref (b + 1186), .int tp, .ref (b + 1187), .ref (b + 1217), .ref (b + 1247), .ref (b + 1277), .ref (b + 1285), .ref (b + 1278), .int ti, .int 0, .int wk, .int wa, .ref (b + 1281), .int bg, .ref (b + 1282), .ref (b + 1283), .ref (b + 1284), .int pk]))) else (if k = 2 then (zu (f) 1185 (.inr (1, [.int w, .int h, .ref (b + 1186), .int tp, .ref (b + 1187), .ref (b + 1217), .ref (b + 1247), .ref (b + 1277), .ref (b + 1285), .ref (b + 1278), .int ti, .int 0, .int wk, .int wa, .ref (b + 1281), .int bg, .ref (b + 1282), .ref (b + 1283), .ref (b + 1284), .int pk]))) else (if k = 3 then (zu (f) 1185 (.inr (1, [.int w, .int h, .ref (b + 1186), .int tp, .ref (b + 1187), .ref (b + 1217), .ref (b + 1247), .ref (b + 1277), .ref (b + 1285), .ref (b + 1278), .int ti, .int 0, .int wk, .int wa, .ref (b + 1281), .int bg, .ref (b + 1282), .ref (b + 1283), .ref (b + 1284), .int pk]))) else (if k = 4 then (zu (f) 1185 (.inr (1, [.int w, .int h, .ref (b + 1186), .int tp, .ref (b + 1187), .ref (b + 1217), .ref (b + 1247), .ref (b + 1277), .ref (b + 1285), .ref (b + 1278), .int ti, .int 0, .int wk, .int wa, .ref (b + 1281), .int bg, .ref (b + 1282), .ref (b + 1283), .ref (b + 1284), .int pk]))) else (if k = 5 then (zu (f) 1185 (.inr (1, [.int w, .int h, .ref (b + 1186), .int tp, .ref (b + 1187), .ref (b + 1217), .ref (b + 1247), .ref (b + 1277), .ref (b + 1285), .ref (b + 1278), .int ti, .int 0, .int wk, .int wa, .ref (b + 1281), .int bg, .ref (b + 1282), .ref (b + 1283), .ref (b + 1284), .int pk]))) else (zu (f) 1185 (.inr (1, [.int w, .int h, .ref (b + 1186), .int tp, .ref (b + 1187), .ref (b + 1217), .ref (b + 1247), .ref (b + 1277), .ref (b + 1285), .ref (b + 1278), .int ti, .int 0, .int wk, .int wa, .ref (b + 1281), .int bg, .ref (b + 1282), .ref (b + 1283), .ref (b + 1284), .int pk])))))))))
set_option maxHeartbeats 4000000 in
set_option maxRecDepth 100000 in
theorem c_MD_count (l : Launch) (D : va_G) (tA : Nat → ClassId) (b : Nat) (f : zV) (n : Nat) (k : Int32) (w : Int32) (h : Int32) (tp : Int32) (ti : Int32) (th : Int32) (wk : Int32) (wa : Int32) (bg : Int32) (pk : Int32) (t0 : Int32) (t1 : Int32) (t2 : Int32) (t3 : Int32) (t4 : Int32) (fo : Int32) (am0 : Int32) (hf : f 1185 = some (.inr (1, [.int w, .int h, .ref (b + 1186), .int tp, .ref (b + 1187), .ref (b + 1217), .ref (b + 1247), .ref (b + 1277), .ref (b + 1285), .ref (b + 1278), .int ti, .int th, .int wk, .int wa, .ref (b + 1281), .int bg, .ref (b + 1282), .ref (b + 1283), .ref (b + 1284), .int pk]))) (hs : f 1187 = some (.inr (15, msO b 1188 t0 t1 t2 t3 t4 fo am0)))  : zM l D tA b zy_MD_count zb_MD_count 2 (some .int) 0 0 0 0 [.ref (b + 1185), .int k] f n (zE (some (.int (sp_MD_count k w h tp ti th wk wa bg pk t0 t1 t2 t3 t4 fo am0))) (sw_MD_count tA b f k w h tp ti th wk wa bg pk t0 t1 t2 t3 t4 fo am0) n) := by
  refine zM_of (own := "OrreryBoxModel") (plainFor_of_name (by decide)) rfl (Nat.le_of_ble_eq_true rfl) (fun p e s m below meth c F hr hin hH => ?_)
  refine zr_aload_n F zd_MD_count_0 rfl ?_
  refine zr_iconstv (v := 0) F zd_MD_count_1 (by decide) ?_
  refine zr_put F 1 11 zd_MD_count_2 hf rfl (by decide) zw_1691 rfl rfl rfl rfl (by exact (Nat.le_of_ble_eq_true rfl)) ?_
  refine zr_norm (zu (f) 1185 (.inr (1, [.int w, .int h, .ref (b + 1186), .int tp, .ref (b + 1187), .ref (b + 1217), .ref (b + 1247), .ref (b + 1277), .ref (b + 1285), .ref (b + 1278), .int ti, .int 0, .int wk, .int wa, .ref (b + 1281), .int bg, .ref (b + 1282), .ref (b + 1283), .ref (b + 1284), .int pk]))) _ (rfl) rfl ?_
  refine zr_iload_n F zd_MD_count_5 rfl ?_
  by_cases h1_0 : k = 0
  ·
    refine zr_tableIn F 44 zd_MD_count_6 (by rw [h1_0]; decide) (by rw [h1_0]; decide) (by rw [h1_0]; rfl) (by decide) ?_
    refine zr_aload_n F zd_MD_count_44 rfl ?_
    refine zr_get F 1 4 zd_MD_count_45 (zu_s _ _ _) rfl (by decide) zw_1684 rfl (by rfl) ?_
    refine zr_get F 15 0 zd_MD_count_48 ((zu_n _ (by omega)).trans hs) rfl (by decide) zw_1316 rfl (by rfl) ?_
    exact zr_iret F hr zd_MD_count_51 (Nat.le_of_ble_eq_true rfl) (Nat.le_of_ble_eq_true rfl) ⟨by rw [sp_MD_count, if_pos h1_0], by rw [sw_MD_count, if_pos h1_0], rfl⟩
  ·
    by_cases h1_1 : k = 1
    ·
      refine zr_tableIn F 52 zd_MD_count_6 (by rw [h1_1]; decide) (by rw [h1_1]; decide) (by rw [h1_1]; rfl) (by decide) ?_
      refine zr_aload_n F zd_MD_count_52 rfl ?_
      refine zr_get F 1 4 zd_MD_count_53 (zu_s _ _ _) rfl (by decide) zw_1684 rfl (by rfl) ?_
      refine zr_get F 15 1 zd_MD_count_56 ((zu_n _ (by omega)).trans hs) rfl (by decide) zw_1319 rfl (by rfl) ?_
      exact zr_iret F hr zd_MD_count_59 (Nat.le_of_ble_eq_true rfl) (Nat.le_of_ble_eq_true rfl) ⟨by rw [sp_MD_count, if_neg h1_0, if_pos h1_1], by rw [sw_MD_count, if_neg h1_0, if_pos h1_1], rfl⟩
    ·
      by_cases h1_2 : k = 2
      ·
        refine zr_tableIn F 60 zd_MD_count_6 (by rw [h1_2]; decide) (by rw [h1_2]; decide) (by rw [h1_2]; rfl) (by decide) ?_
        refine zr_aload_n F zd_MD_count_60 rfl ?_
        refine zr_get F 1 4 zd_MD_count_61 (zu_s _ _ _) rfl (by decide) zw_1684 rfl (by rfl) ?_
        refine zr_get F 15 2 zd_MD_count_64 ((zu_n _ (by omega)).trans hs) rfl (by decide) zw_1322 rfl (by rfl) ?_
        exact zr_iret F hr zd_MD_count_67 (Nat.le_of_ble_eq_true rfl) (Nat.le_of_ble_eq_true rfl) ⟨by rw [sp_MD_count, if_neg h1_0, if_neg h1_1, if_pos h1_2], by rw [sw_MD_count, if_neg h1_0, if_neg h1_1, if_pos h1_2], rfl⟩
      ·
        by_cases h1_3 : k = 3
        ·
          refine zr_tableIn F 68 zd_MD_count_6 (by rw [h1_3]; decide) (by rw [h1_3]; decide) (by rw [h1_3]; rfl) (by decide) ?_
          refine zr_aload_n F zd_MD_count_68 rfl ?_
          refine zr_get F 1 4 zd_MD_count_69 (zu_s _ _ _) rfl (by decide) zw_1684 rfl (by rfl) ?_
          refine zr_get F 15 3 zd_MD_count_72 ((zu_n _ (by omega)).trans hs) rfl (by decide) zw_1325 rfl (by rfl) ?_
          exact zr_iret F hr zd_MD_count_75 (Nat.le_of_ble_eq_true rfl) (Nat.le_of_ble_eq_true rfl) ⟨by rw [sp_MD_count, if_neg h1_0, if_neg h1_1, if_neg h1_2, if_pos h1_3], by rw [sw_MD_count, if_neg h1_0, if_neg h1_1, if_neg h1_2, if_pos h1_3], rfl⟩
        ·
          by_cases h1_4 : k = 4
          ·
            refine zr_tableIn F 76 zd_MD_count_6 (by rw [h1_4]; decide) (by rw [h1_4]; decide) (by rw [h1_4]; rfl) (by decide) ?_
            refine zr_aload_n F zd_MD_count_76 rfl ?_
            refine zr_get F 1 4 zd_MD_count_77 (zu_s _ _ _) rfl (by decide) zw_1684 rfl (by rfl) ?_
            refine zr_get F 15 4 zd_MD_count_80 ((zu_n _ (by omega)).trans hs) rfl (by decide) zw_1329 rfl (by rfl) ?_
            exact zr_iret F hr zd_MD_count_83 (Nat.le_of_ble_eq_true rfl) (Nat.le_of_ble_eq_true rfl) ⟨by rw [sp_MD_count, if_neg h1_0, if_neg h1_1, if_neg h1_2, if_neg h1_3, if_pos h1_4], by rw [sw_MD_count, if_neg h1_0, if_neg h1_1, if_neg h1_2, if_neg h1_3, if_pos h1_4], rfl⟩
          ·
            by_cases h1_5 : k = 5
            ·
              refine zr_tableIn F 84 zd_MD_count_6 (by rw [h1_5]; decide) (by rw [h1_5]; decide) (by rw [h1_5]; rfl) (by decide) ?_
              refine zr_aload_n F zd_MD_count_84 rfl ?_
              refine zr_get F 1 10 zd_MD_count_85 (zu_s _ _ _) rfl (by decide) zw_1690 rfl (by rfl) ?_
              exact zr_iret F hr zd_MD_count_88 (Nat.le_of_ble_eq_true rfl) (Nat.le_of_ble_eq_true rfl) ⟨by rw [sp_MD_count, if_neg h1_0, if_neg h1_1, if_neg h1_2, if_neg h1_3, if_neg h1_4, if_pos h1_5], by rw [sw_MD_count, if_neg h1_0, if_neg h1_1, if_neg h1_2, if_neg h1_3, if_neg h1_4, if_pos h1_5], rfl⟩
            ·
              refine zr_tableOut F 89 zd_MD_count_6 (zx_out k 0 5 (by decide) (by decide) (by decide) (by omega) (fun j hj => by match j, hj with | 0, _ => exact h1_0 | 1, _ => exact h1_1 | 2, _ => exact h1_2 | 3, _ => exact h1_3 | 4, _ => exact h1_4 | 5, _ => exact h1_5 | j + 6, hq => exact absurd hq (by omega))) (by decide) ?_
              refine zr_iconstv (v := (-1)) F zd_MD_count_89 (by decide) ?_
              exact zr_iret F hr zd_MD_count_90 (Nat.le_of_ble_eq_true rfl) (Nat.le_of_ble_eq_true rfl) ⟨by rw [sp_MD_count, if_neg h1_0, if_neg h1_1, if_neg h1_2, if_neg h1_3, if_neg h1_4, if_neg h1_5], by rw [sw_MD_count, if_neg h1_0, if_neg h1_1, if_neg h1_2, if_neg h1_3, if_neg h1_4, if_neg h1_5], rfl⟩
abbrev zb_OB_byteAt : ByteArray := prog_1_method_22_code
def zy_OB_byteAt : MethodName := ⟨"OrreryBox", "byteAt", "(I)I"⟩
theorem zc_OB_byteAt : Cond.code zy_OB_byteAt zb_OB_byteAt 2 (some .int) ∈ gw := gw_t 1061 (by decide +kernel) rfl
theorem zq_OB_byteAt : zy_OB_byteAt.cls ≠ "java/lang/invoke/MethodHandle" ∧ zy_OB_byteAt.cls ≠ "java/lang/invoke/VarHandle" ∧ (parseMethodDescriptor zy_OB_byteAt.desc).map (fun d => d.parameters.length) = some 1 := by decide +kernel
theorem zd_OB_byteAt_0 : decode zb_OB_byteAt 0 = .ok (.iload_n 1, 1) := by decide +kernel
theorem zd_OB_byteAt_1 : decode zb_OB_byteAt 1 = .ok (.iconst 0, 1) := by decide +kernel
theorem zd_OB_byteAt_2 : decode zb_OB_byteAt 2 = .ok (.aload_n 0, 1) := by decide +kernel
theorem zd_OB_byteAt_3 : decode zb_OB_byteAt 3 = .ok (.getfield 30, 3) := by decide +kernel
theorem zd_OB_byteAt_6 : decode zb_OB_byteAt 6 = .ok (.getfield 226, 3) := by decide +kernel
theorem zd_OB_byteAt_9 : decode zb_OB_byteAt 9 = .ok (.iconst 1, 1) := by decide +kernel
theorem zd_OB_byteAt_10 : decode zb_OB_byteAt 10 = .ok (.isub, 1) := by decide +kernel
theorem zd_OB_byteAt_11 : decode zb_OB_byteAt 11 = .ok (.invokestatic 97, 3) := by decide +kernel
theorem zd_OB_byteAt_14 : decode zb_OB_byteAt 14 = .ok (.ifCond .eq 19, 3) := by decide +kernel
theorem zd_OB_byteAt_17 : decode zb_OB_byteAt 17 = .ok (.aload_n 0, 1) := by decide +kernel
theorem zd_OB_byteAt_18 : decode zb_OB_byteAt 18 = .ok (.getfield 30, 3) := by decide +kernel
theorem zd_OB_byteAt_21 : decode zb_OB_byteAt 21 = .ok (.getfield 229, 3) := by decide +kernel
theorem zd_OB_byteAt_24 : decode zb_OB_byteAt 24 = .ok (.iload_n 1, 1) := by decide +kernel
theorem zd_OB_byteAt_25 : decode zb_OB_byteAt 25 = .ok (.baload, 1) := by decide +kernel
theorem zd_OB_byteAt_26 : decode zb_OB_byteAt 26 = .ok (.sipush 255, 3) := by decide +kernel
theorem zd_OB_byteAt_29 : decode zb_OB_byteAt 29 = .ok (.iand, 1) := by decide +kernel
theorem zd_OB_byteAt_30 : decode zb_OB_byteAt 30 = .ok (.goto 4, 3) := by decide +kernel
theorem zd_OB_byteAt_33 : decode zb_OB_byteAt 33 = .ok (.iconst (-1), 1) := by decide +kernel
theorem zd_OB_byteAt_34 : decode zb_OB_byteAt 34 = .ok (.ireturn, 1) := by decide +kernel
theorem zw_84 : (Jvm.Cond.fieldLink "OrreryBox" (226 : Nat) "OrreryBox$Packer" "size" "I") ∈ gw := gw_t 84 (by decide +kernel) rfl
theorem zw_82 : (Jvm.Cond.fieldLink "OrreryBox" (229 : Nat) "OrreryBox$Packer" "out" "[B") ∈ gw := gw_t 82 (by decide +kernel) rfl
def sp_OB_byteAt (k : Int32) (w : Int32) (h : Int32) (tp : Int32) (sc : Nat) (gr : Int32) (pk : Int32) (z : Nat) (k1 : Int32) (k2 : Int32) (k3 : Int32) (k4 : Int32) (k5 : Int32) (go : Nat → Int32) : Int32 := (if (sp_OB_within (k) (0) (((nI z) - 1))) = 0 then (-1) else ((go (k).toNatClampNeg) &&& 255))
set_option maxHeartbeats 4000000 in
set_option maxRecDepth 100000 in
theorem c_OB_byteAt (l : Launch) (D : va_G) (tA : Nat → ClassId) (b : Nat) (f : zV) (n : Nat) (k : Int32) (w : Int32) (h : Int32) (tp : Int32) (sc : Nat) (gr : Int32) (pk : Int32) (z : Nat) (k1 : Int32) (k2 : Int32) (k3 : Int32) (k4 : Int32) (k5 : Int32) (go : Nat → Int32) (hf : f 0 = some (.inr (0, [.int w, .int h, .ref (b + 1), .int tp, .ref (b + 2), .ref (b + sc), .ref (b + 3), .ref (b + 1121), .ref (b + 1178), .ref (b + 5), .int gr, .int pk]))) (hp : f 5 = some (.inr (4, [.ref (b + 6), .int (nI z), .ref (b + 7), .ref (b + 8), .int k1, .ref (b + 9), .ref (b + 10), .int k2, .int k3, .int k4, .int k5]))) (ho : f 6 = some (.inl (tA 1, 7958, .inl (go)))) (hz : z ≤ 7958) : zM l D tA b zy_OB_byteAt zb_OB_byteAt 2 (some .int) 1 22 0 0 [.ref (b + 0), .int k] f n (zE (some (.int (sp_OB_byteAt k w h tp sc gr pk z k1 k2 k3 k4 k5 go))) f n) := by
  refine zM_of (own := "OrreryBox") (plainFor_of_name (by decide)) rfl (Nat.le_of_ble_eq_true rfl) (fun p e s m below meth c F hr hin hH => ?_)
  refine zr_iload_n F zd_OB_byteAt_0 rfl ?_
  refine zr_iconstv (v := 0) F zd_OB_byteAt_1 (by decide) ?_
  refine zr_aload_n F zd_OB_byteAt_2 rfl ?_
  refine zr_get F 0 9 zd_OB_byteAt_3 hf rfl (by decide) zw_497 rfl (by rfl) ?_
  refine zr_get F 4 1 zd_OB_byteAt_6 hp rfl (by decide) zw_84 rfl (by rfl) ?_
  refine zr_iconstv (v := 1) F zd_OB_byteAt_9 (by decide) ?_
  refine zr_isub F zd_OB_byteAt_10 ?_
  refine zr_callS1 F (c_OB_within l D tA b _ _ (k) (0) (((nI z) - 1))) zd_OB_byteAt_11 zs_OB_97 zq_OB_within rfl rfl ⟨(Nat.le_of_ble_eq_true rfl), (Nat.le_of_ble_eq_true rfl)⟩ (Nat.le_of_ble_eq_true rfl) ⟨(Nat.le_of_ble_eq_true rfl), (Nat.le_of_ble_eq_true rfl)⟩ ?_
  refine zr_if_eq F 33 zd_OB_byteAt_14 (by decide) (fun h1 => ?_) (fun h1 => ?_)
  ·
    refine zr_iconstv (v := (-1)) F zd_OB_byteAt_33 (by decide) ?_
    exact zr_iret F hr zd_OB_byteAt_34 (Nat.le_of_ble_eq_true rfl) (Nat.le_of_ble_eq_true rfl) ⟨by rw [sp_OB_byteAt, if_pos h1], rfl, rfl⟩
  ·
    refine zr_aload_n F zd_OB_byteAt_17 rfl ?_
    refine zr_get F 0 9 zd_OB_byteAt_18 hf rfl (by decide) zw_497 rfl (by rfl) ?_
    refine zr_get F 4 0 zd_OB_byteAt_21 hp rfl (by decide) zw_82 rfl (by rfl) ?_
    refine zr_iload_n F zd_OB_byteAt_24 rfl ?_
    refine zr_bald F zd_OB_byteAt_25 ho (zx_cb hz (by decide) (by assumption)) ?_
    refine zr_sipushv (v := 255) F zd_OB_byteAt_26 (by decide) ?_
    refine zr_iand F zd_OB_byteAt_29 ?_
    refine zr_goto F 34 zd_OB_byteAt_30 (by decide) ?_
    exact zr_iret F hr zd_OB_byteAt_34 (Nat.le_of_ble_eq_true rfl) (Nat.le_of_ble_eq_true rfl) ⟨by rw [sp_OB_byteAt, if_neg h1], rfl, rfl⟩
abbrev zb_MD_byteAt : ByteArray := prog_14_method_30_code
def zy_MD_byteAt : MethodName := ⟨"OrreryBoxModel", "byteAt", "(I)I"⟩
theorem zc_MD_byteAt : Cond.code zy_MD_byteAt zb_MD_byteAt 2 (some .int) ∈ gw := gw_t 2273 (by decide +kernel) rfl
theorem zq_MD_byteAt : zy_MD_byteAt.cls ≠ "java/lang/invoke/MethodHandle" ∧ zy_MD_byteAt.cls ≠ "java/lang/invoke/VarHandle" ∧ (parseMethodDescriptor zy_MD_byteAt.desc).map (fun d => d.parameters.length) = some 1 := by decide +kernel
theorem zd_MD_byteAt_0 : decode zb_MD_byteAt 0 = .ok (.aload_n 0, 1) := by decide +kernel
theorem zd_MD_byteAt_1 : decode zb_MD_byteAt 1 = .ok (.iconst 0, 1) := by decide +kernel
theorem zd_MD_byteAt_2 : decode zb_MD_byteAt 2 = .ok (.putfield 80, 3) := by decide +kernel
theorem zd_MD_byteAt_5 : decode zb_MD_byteAt 5 = .ok (.iload_n 1, 1) := by decide +kernel
theorem zd_MD_byteAt_6 : decode zb_MD_byteAt 6 = .ok (.ifCond .lt 14, 3) := by decide +kernel
theorem zd_MD_byteAt_9 : decode zb_MD_byteAt 9 = .ok (.iload_n 1, 1) := by decide +kernel
theorem zd_MD_byteAt_10 : decode zb_MD_byteAt 10 = .ok (.aload_n 0, 1) := by decide +kernel
theorem zd_MD_byteAt_11 : decode zb_MD_byteAt 11 = .ok (.getfield 39, 3) := by decide +kernel
theorem zd_MD_byteAt_14 : decode zb_MD_byteAt 14 = .ok (.getfield 213, 3) := by decide +kernel
theorem zd_MD_byteAt_17 : decode zb_MD_byteAt 17 = .ok (.if_icmp .lt 7, 3) := by decide +kernel
theorem zd_MD_byteAt_20 : decode zb_MD_byteAt 20 = .ok (.iconst (-1), 1) := by decide +kernel
theorem zd_MD_byteAt_21 : decode zb_MD_byteAt 21 = .ok (.goto 16, 3) := by decide +kernel
theorem zd_MD_byteAt_24 : decode zb_MD_byteAt 24 = .ok (.aload_n 0, 1) := by decide +kernel
theorem zd_MD_byteAt_25 : decode zb_MD_byteAt 25 = .ok (.getfield 39, 3) := by decide +kernel
theorem zd_MD_byteAt_28 : decode zb_MD_byteAt 28 = .ok (.getfield 216, 3) := by decide +kernel
theorem zd_MD_byteAt_31 : decode zb_MD_byteAt 31 = .ok (.iload_n 1, 1) := by decide +kernel
theorem zd_MD_byteAt_32 : decode zb_MD_byteAt 32 = .ok (.baload, 1) := by decide +kernel
theorem zd_MD_byteAt_33 : decode zb_MD_byteAt 33 = .ok (.sipush 255, 3) := by decide +kernel
theorem zd_MD_byteAt_36 : decode zb_MD_byteAt 36 = .ok (.iand, 1) := by decide +kernel
theorem zd_MD_byteAt_37 : decode zb_MD_byteAt 37 = .ok (.ireturn, 1) := by decide +kernel
theorem zw_1551 : (Jvm.Cond.fieldLink "OrreryBoxModel" (213 : Nat) "OrreryBoxModel$Packer" "fileLong" "I") ∈ gw := gw_t 1551 (by decide +kernel) rfl
theorem zw_1549 : (Jvm.Cond.fieldLink "OrreryBoxModel" (216 : Nat) "OrreryBoxModel$Packer" "file" "[B") ∈ gw := gw_t 1549 (by decide +kernel) rfl
def sp_MD_byteAt (k : Int32) (w : Int32) (h : Int32) (tp : Int32) (ti : Int32) (th : Int32) (wk : Int32) (wa : Int32) (bg : Int32) (pk : Int32) (z : Nat) (k1 : Int32) (k2 : Int32) (k3 : Int32) (kc : Value) (go : Nat → Int32) : Int32 := (if k < 0 then (-1) else (if k < (nI z) then ((go (k).toNatClampNeg) &&& 255) else (-1)))
def sw_MD_byteAt (tA : Nat → ClassId) (b : Nat) (f : zV) (k : Int32) (w : Int32) (h : Int32) (tp : Int32) (ti : Int32) (th : Int32) (wk : Int32) (wa : Int32) (bg : Int32) (pk : Int32) (z : Nat) (k1 : Int32) (k2 : Int32) (k3 : Int32) (kc : Value) (go : Nat → Int32) : zV := (if k < 0 then (zu (f) 1185 (.inr (1, [.int w, .int h, .ref (b + 1186), .int tp, .ref (b + 1187), .ref (b + 1217), .ref (b + 1247), .ref (b + 1277), .ref (b + 1285), .ref (b + 1278), .int ti, .int 0, .int wk, .int wa, .ref (b + 1281), .int bg, .ref (b + 1282), .ref (b + 1283), .ref (b + 1284), .int pk]))) else (if k < (nI z) then (zu (f) 1185 (.inr (1, [.int w, .int h, .ref (b + 1186), .int tp, .ref (b + 1187), .ref (b + 1217), .ref (b + 1247), .ref (b + 1277), .ref (b + 1285), .ref (b + 1278), .int ti, .int 0, .int wk, .int wa, .ref (b + 1281), .int bg, .ref (b + 1282), .ref (b + 1283), .ref (b + 1284), .int pk]))) else (zu (f) 1185 (.inr (1, [.int w, .int h, .ref (b + 1186), .int tp, .ref (b + 1187), .ref (b + 1217), .ref (b + 1247), .ref (b + 1277), .ref (b + 1285), .ref (b + 1278), .int ti, .int 0, .int wk, .int wa, .ref (b + 1281), .int bg, .ref (b + 1282), .ref (b + 1283), .ref (b + 1284), .int pk])))))
set_option maxHeartbeats 4000000 in
set_option maxRecDepth 100000 in
theorem c_MD_byteAt (l : Launch) (D : va_G) (tA : Nat → ClassId) (b : Nat) (f : zV) (n : Nat) (k : Int32) (w : Int32) (h : Int32) (tp : Int32) (ti : Int32) (th : Int32) (wk : Int32) (wa : Int32) (bg : Int32) (pk : Int32) (z : Nat) (k1 : Int32) (k2 : Int32) (k3 : Int32) (kc : Value) (go : Nat → Int32) (hf : f 1185 = some (.inr (1, [.int w, .int h, .ref (b + 1186), .int tp, .ref (b + 1187), .ref (b + 1217), .ref (b + 1247), .ref (b + 1277), .ref (b + 1285), .ref (b + 1278), .int ti, .int th, .int wk, .int wa, .ref (b + 1281), .int bg, .ref (b + 1282), .ref (b + 1283), .ref (b + 1284), .int pk]))) (hp : f 1278 = some (.inr (12, [.ref (b + 1279), .int k1, .ref (b + (1279 + 1)), .int (nI z), .int k2, .int k3, kc]))) (ho : f ((1279 + 1)) = some (.inl (tA 1, 8192, .inl (go)))) (hz : z ≤ 8192) : zM l D tA b zy_MD_byteAt zb_MD_byteAt 2 (some .int) 0 0 0 0 [.ref (b + 1185), .int k] f n (zE (some (.int (sp_MD_byteAt k w h tp ti th wk wa bg pk z k1 k2 k3 kc go))) (sw_MD_byteAt tA b f k w h tp ti th wk wa bg pk z k1 k2 k3 kc go) n) := by
  refine zM_of (own := "OrreryBoxModel") (plainFor_of_name (by decide)) rfl (Nat.le_of_ble_eq_true rfl) (fun p e s m below meth c F hr hin hH => ?_)
  refine zr_aload_n F zd_MD_byteAt_0 rfl ?_
  refine zr_iconstv (v := 0) F zd_MD_byteAt_1 (by decide) ?_
  refine zr_put F 1 11 zd_MD_byteAt_2 hf rfl (by decide) zw_1691 rfl rfl rfl rfl (by exact (Nat.le_of_ble_eq_true rfl)) ?_
  refine zr_norm (zu (f) 1185 (.inr (1, [.int w, .int h, .ref (b + 1186), .int tp, .ref (b + 1187), .ref (b + 1217), .ref (b + 1247), .ref (b + 1277), .ref (b + 1285), .ref (b + 1278), .int ti, .int 0, .int wk, .int wa, .ref (b + 1281), .int bg, .ref (b + 1282), .ref (b + 1283), .ref (b + 1284), .int pk]))) _ (rfl) rfl ?_
  refine zr_iload_n F zd_MD_byteAt_5 rfl ?_
  refine zr_if_lt F 20 zd_MD_byteAt_6 (by decide) (fun h1 => ?_) (fun h1 => ?_)
  ·
    refine zr_iconstv (v := (-1)) F zd_MD_byteAt_20 (by decide) ?_
    refine zr_goto F 37 zd_MD_byteAt_21 (by decide) ?_
    exact zr_iret F hr zd_MD_byteAt_37 (Nat.le_of_ble_eq_true rfl) (Nat.le_of_ble_eq_true rfl) ⟨by rw [sp_MD_byteAt, if_pos h1], by rw [sw_MD_byteAt, if_pos h1], rfl⟩
  ·
    refine zr_iload_n F zd_MD_byteAt_9 rfl ?_
    refine zr_aload_n F zd_MD_byteAt_10 rfl ?_
    refine zr_get F 1 9 zd_MD_byteAt_11 (zu_s _ _ _) rfl (by decide) zw_1689 rfl (by rfl) ?_
    refine zr_get F 12 3 zd_MD_byteAt_14 ((zu_n _ (by omega)).trans hp) rfl (by decide) zw_1551 rfl (by rfl) ?_
    refine zr_icmp_lt F 24 zd_MD_byteAt_17 (by decide) (fun h2 => ?_) (fun h2 => ?_)
    ·
      refine zr_aload_n F zd_MD_byteAt_24 rfl ?_
      refine zr_get F 1 9 zd_MD_byteAt_25 (zu_s _ _ _) rfl (by decide) zw_1689 rfl (by rfl) ?_
      refine zr_get F 12 2 zd_MD_byteAt_28 ((zu_n _ (by omega)).trans hp) rfl (by decide) zw_1549 rfl (by rfl) ?_
      refine zr_iload_n F zd_MD_byteAt_31 rfl ?_
      refine zr_bald F zd_MD_byteAt_32 ((zu_n _ (by omega)).trans ho) (zx_cf hz (by decide) (by assumption) (by assumption)) ?_
      refine zr_sipushv (v := 255) F zd_MD_byteAt_33 (by decide) ?_
      refine zr_iand F zd_MD_byteAt_36 ?_
      exact zr_iret F hr zd_MD_byteAt_37 (Nat.le_of_ble_eq_true rfl) (Nat.le_of_ble_eq_true rfl) ⟨by rw [sp_MD_byteAt, if_neg h1, if_pos h2], by rw [sw_MD_byteAt, if_neg h1, if_pos h2], rfl⟩
    ·
      refine zr_iconstv (v := (-1)) F zd_MD_byteAt_20 (by decide) ?_
      refine zr_goto F 37 zd_MD_byteAt_21 (by decide) ?_
      exact zr_iret F hr zd_MD_byteAt_37 (Nat.le_of_ble_eq_true rfl) (Nat.le_of_ble_eq_true rfl) ⟨by rw [sp_MD_byteAt, if_neg h1, if_neg h2], by rw [sw_MD_byteAt, if_neg h1, if_neg h2], rfl⟩
