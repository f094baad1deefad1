theorem zu_mid {f : zV} {k j : Nat} (h : k ≠ j) (x y z : va_E) : zu (zu (zu f k x) j y) k z = zu (zu f k z) j y := by
  rw [zu_swap (Ne.symm h), zu_zu]
/-- a byte of a number, as a tape keeps it -/
def zbyte (v s : Int32) : Int32 := vp_nar .byte ((v >>> (s &&& 31)).toInt8.toInt32)
def zt4 (g : Nat → Int32) (t : Nat) (v : Int32) : Nat → Int32 := upd (upd (upd (upd g t (zbyte v 24)) (t + 1) (zbyte v 16)) (t + 2) (zbyte v 8)) (t + 3) (zbyte v 0)
abbrev zb_OB_tapeNumber : ByteArray := prog_1_method_23_code
def zy_OB_tapeNumber : MethodName := ⟨"OrreryBox", "tapeNumber", "(I)V"⟩
theorem zc_OB_tapeNumber : Cond.code zy_OB_tapeNumber zb_OB_tapeNumber 3 none ∈ gw := gw_t 532 (by decide +kernel) rfl
theorem zq_OB_tapeNumber : zy_OB_tapeNumber.cls ≠ "java/lang/invoke/MethodHandle" ∧ zy_OB_tapeNumber.cls ≠ "java/lang/invoke/VarHandle" ∧ (parseMethodDescriptor zy_OB_tapeNumber.desc).map (fun d => d.parameters.length) = some 1 := by decide +kernel
theorem zd_OB_tapeNumber_0 : decode zb_OB_tapeNumber 0 = .ok (.bipush 24, 2) := by decide +kernel
theorem zd_OB_tapeNumber_2 : decode zb_OB_tapeNumber 2 = .ok (.istore_n 2, 1) := by decide +kernel
theorem zd_OB_tapeNumber_3 : decode zb_OB_tapeNumber 3 = .ok (.iload_n 2, 1) := by decide +kernel
theorem zd_OB_tapeNumber_4 : decode zb_OB_tapeNumber 4 = .ok (.ifCond .lt 32, 3) := by decide +kernel
theorem zd_OB_tapeNumber_7 : decode zb_OB_tapeNumber 7 = .ok (.aload_n 0, 1) := by decide +kernel
theorem zd_OB_tapeNumber_8 : decode zb_OB_tapeNumber 8 = .ok (.getfield 10, 3) := by decide +kernel
theorem zd_OB_tapeNumber_11 : decode zb_OB_tapeNumber 11 = .ok (.aload_n 0, 1) := by decide +kernel
theorem zd_OB_tapeNumber_12 : decode zb_OB_tapeNumber 12 = .ok (.getfield 69, 3) := by decide +kernel
theorem zd_OB_tapeNumber_15 : decode zb_OB_tapeNumber 15 = .ok (.iload_n 1, 1) := by decide +kernel
theorem zd_OB_tapeNumber_16 : decode zb_OB_tapeNumber 16 = .ok (.iload_n 2, 1) := by decide +kernel
theorem zd_OB_tapeNumber_17 : decode zb_OB_tapeNumber 17 = .ok (.ishr, 1) := by decide +kernel
theorem zd_OB_tapeNumber_18 : decode zb_OB_tapeNumber 18 = .ok (.i2b, 1) := by decide +kernel
theorem zd_OB_tapeNumber_19 : decode zb_OB_tapeNumber 19 = .ok (.bastore, 1) := by decide +kernel
theorem zd_OB_tapeNumber_20 : decode zb_OB_tapeNumber 20 = .ok (.aload_n 0, 1) := by decide +kernel
theorem zd_OB_tapeNumber_21 : decode zb_OB_tapeNumber 21 = .ok (.dup, 1) := by decide +kernel
theorem zd_OB_tapeNumber_22 : decode zb_OB_tapeNumber 22 = .ok (.getfield 69, 3) := by decide +kernel
theorem zd_OB_tapeNumber_25 : decode zb_OB_tapeNumber 25 = .ok (.iconst 1, 1) := by decide +kernel
theorem zd_OB_tapeNumber_26 : decode zb_OB_tapeNumber 26 = .ok (.iadd, 1) := by decide +kernel
theorem zd_OB_tapeNumber_27 : decode zb_OB_tapeNumber 27 = .ok (.putfield 69, 3) := by decide +kernel
theorem zd_OB_tapeNumber_30 : decode zb_OB_tapeNumber 30 = .ok (.iinc 2 (-8), 3) := by decide +kernel
theorem zd_OB_tapeNumber_33 : decode zb_OB_tapeNumber 33 = .ok (.goto (-30), 3) := by decide +kernel
theorem zd_OB_tapeNumber_36 : decode zb_OB_tapeNumber 36 = .ok (.return_, 1) := by decide +kernel
set_option maxHeartbeats 4000000 in
set_option maxRecDepth 100000 in
theorem c_OB_tapeNumber (l : Launch) (D : va_G) (tA : Nat → ClassId) (b : Nat) (f : zV) (n : Nat) (v : Int32) (t : Nat) (g : Nat → Int32) (w h : Int32) (sc : Nat) (gr pk : Int32) (h4 : t + 4 ≤ 65536) (hf : f 0 = some (.inr (0, [.int w, .int h, .ref (b + 1), .int (nI t), .ref (b + 2), .ref (b + sc), .ref (b + 3), .ref (b + 1121), .ref (b + 1178), .ref (b + 5), .int gr, .int pk]))) (ht : f 1 = some (.inl (tA 1, 65536, .inl g))) : zM l D tA b zy_OB_tapeNumber zb_OB_tapeNumber 3 none 0 0 0 0 [.ref (b + 0), .int v] f n (zE none (zu (zu f 1 (.inl (tA 1, 65536, .inl (zt4 g t v)))) 0 (.inr (0, [.int w, .int h, .ref (b + 1), .int (nI (t + 4)), .ref (b + 2), .ref (b + sc), .ref (b + 3), .ref (b + 1121), .ref (b + 1178), .ref (b + 5), .int gr, .int pk]))) n) := by
  refine zM_of (own := "OrreryBox") (plainFor_of_name (by decide)) rfl (Nat.le_of_ble_eq_true rfl) (fun p e s m below meth c F hr hin hH => ?_)
  refine zr_bipushv (v := 24) F zd_OB_tapeNumber_0 (by decide) ?_
  refine zr_istore_n F zd_OB_tapeNumber_2 (by decide) ?_
  refine zr_loc (L' := [(0, .ref (b + 0)), (1, .int v), (2, .int 24)]) ⟨rfl, rfl, rfl, trivial⟩ ?_
  refine zr_iload_n F zd_OB_tapeNumber_3 rfl ?_
  refine zr_if_lt F 36 zd_OB_tapeNumber_4 (by decide) (fun h => absurd h (by decide)) (fun _ => ?_)
  refine zr_aload_n F zd_OB_tapeNumber_7 rfl ?_
  refine zr_get F 0 2 zd_OB_tapeNumber_8 hf rfl (by decide) zw_490 rfl (by rfl) ?_
  refine zr_aload_n F zd_OB_tapeNumber_11 rfl ?_
  refine zr_get F 0 3 zd_OB_tapeNumber_12 hf rfl (by decide) zw_491 rfl (by rfl) ?_
  refine zr_iload_n F zd_OB_tapeNumber_15 rfl ?_
  refine zr_iload_n F zd_OB_tapeNumber_16 rfl ?_
  refine zr_ishr F zd_OB_tapeNumber_17 ?_
  refine zr_i2b F zd_OB_tapeNumber_18 ?_
  refine zr_bast F zd_OB_tapeNumber_19 ht (vp_in_nI (by omega) (by decide)) ?_
  refine zr_norm (zu (zu f 1 (.inl (tA 1, 65536, .inl (upd (g) (t) (zbyte v 24))))) 0 (.inr (0, [.int w, .int h, .ref (b + 1), .int (nI t), .ref (b + 2), .ref (b + sc), .ref (b + 3), .ref (b + 1121), .ref (b + 1178), .ref (b + 5), .int gr, .int pk]))) n (by rw [nI_clamp (by omega)]; exact zu_id ((zu_n _ (by decide)).trans hf)) rfl ?_
  refine zr_aload_n F zd_OB_tapeNumber_20 rfl ?_
  refine zr_dup F zd_OB_tapeNumber_21 rfl ?_
  refine zr_get F 0 3 zd_OB_tapeNumber_22 (zu_s _ _ _) rfl (by decide) zw_491 rfl (by rfl) ?_
  refine zr_iconstv (v := 1) F zd_OB_tapeNumber_25 (by decide) ?_
  refine zr_iadd F zd_OB_tapeNumber_26 ?_
  refine zr_topi (fun y0 hy0 => ?_)
  obtain rfl : y0 = nI (t + 1) := hy0.trans (nI_1 (t))
  refine zr_put F 0 3 zd_OB_tapeNumber_27 (zu_s _ _ _) rfl (by decide) zw_491 rfl rfl rfl rfl (by exact (Nat.le_of_ble_eq_true rfl)) ?_
  refine zr_norm (zu (zu f 1 (.inl (tA 1, 65536, .inl (upd (g) (t) (zbyte v 24))))) 0 (.inr (0, [.int w, .int h, .ref (b + 1), .int (nI (t + 1)), .ref (b + 2), .ref (b + sc), .ref (b + 3), .ref (b + 1121), .ref (b + 1178), .ref (b + 5), .int gr, .int pk]))) n (zu_zu _ _ _ _) rfl ?_
  refine zr_iinc (v := 16) F zd_OB_tapeNumber_30 rfl (by decide) (by decide) ?_
  refine zr_goto F 3 zd_OB_tapeNumber_33 (by decide) ?_
  refine zr_loc (L' := [(0, .ref (b + 0)), (1, .int v), (2, .int 16)]) ⟨rfl, rfl, rfl, trivial⟩ ?_
  refine zr_iload_n F zd_OB_tapeNumber_3 rfl ?_
  refine zr_if_lt F 36 zd_OB_tapeNumber_4 (by decide) (fun h => absurd h (by decide)) (fun _ => ?_)
  refine zr_aload_n F zd_OB_tapeNumber_7 rfl ?_
  refine zr_get F 0 2 zd_OB_tapeNumber_8 (zu_s _ _ _) rfl (by decide) zw_490 rfl (by rfl) ?_
  refine zr_aload_n F zd_OB_tapeNumber_11 rfl ?_
  refine zr_get F 0 3 zd_OB_tapeNumber_12 (zu_s _ _ _) rfl (by decide) zw_491 rfl (by rfl) ?_
  refine zr_iload_n F zd_OB_tapeNumber_15 rfl ?_
  refine zr_iload_n F zd_OB_tapeNumber_16 rfl ?_
  refine zr_ishr F zd_OB_tapeNumber_17 ?_
  refine zr_i2b F zd_OB_tapeNumber_18 ?_
  refine zr_bast F zd_OB_tapeNumber_19 ((zu_n _ (by decide)).trans (zu_s _ _ _)) (vp_in_nI (by omega) (by decide)) ?_
  refine zr_norm (zu (zu f 1 (.inl (tA 1, 65536, .inl (upd (upd (g) (t) (zbyte v 24)) (t + 1) (zbyte v 16))))) 0 (.inr (0, [.int w, .int h, .ref (b + 1), .int (nI (t + 1)), .ref (b + 2), .ref (b + sc), .ref (b + 3), .ref (b + 1121), .ref (b + 1178), .ref (b + 5), .int gr, .int pk]))) n (by rw [nI_clamp (by omega)]; exact zu_mid (by decide) _ _ _) rfl ?_
  refine zr_aload_n F zd_OB_tapeNumber_20 rfl ?_
  refine zr_dup F zd_OB_tapeNumber_21 rfl ?_
  refine zr_get F 0 3 zd_OB_tapeNumber_22 (zu_s _ _ _) rfl (by decide) zw_491 rfl (by rfl) ?_
  refine zr_iconstv (v := 1) F zd_OB_tapeNumber_25 (by decide) ?_
  refine zr_iadd F zd_OB_tapeNumber_26 ?_
  refine zr_topi (fun y1 hy1 => ?_)
  obtain rfl : y1 = nI (t + 2) := hy1.trans (nI_1 (t + 1))
  refine zr_put F 0 3 zd_OB_tapeNumber_27 (zu_s _ _ _) rfl (by decide) zw_491 rfl rfl rfl rfl (by exact (Nat.le_of_ble_eq_true rfl)) ?_
  refine zr_norm (zu (zu f 1 (.inl (tA 1, 65536, .inl (upd (upd (g) (t) (zbyte v 24)) (t + 1) (zbyte v 16))))) 0 (.inr (0, [.int w, .int h, .ref (b + 1), .int (nI (t + 2)), .ref (b + 2), .ref (b + sc), .ref (b + 3), .ref (b + 1121), .ref (b + 1178), .ref (b + 5), .int gr, .int pk]))) n (zu_zu _ _ _ _) rfl ?_
  refine zr_iinc (v := 8) F zd_OB_tapeNumber_30 rfl (by decide) (by decide) ?_
  refine zr_goto F 3 zd_OB_tapeNumber_33 (by decide) ?_
  refine zr_loc (L' := [(0, .ref (b + 0)), (1, .int v), (2, .int 8)]) ⟨rfl, rfl, rfl, trivial⟩ ?_
  refine zr_iload_n F zd_OB_tapeNumber_3 rfl ?_
  refine zr_if_lt F 36 zd_OB_tapeNumber_4 (by decide) (fun h => absurd h (by decide)) (fun _ => ?_)
  refine zr_aload_n F zd_OB_tapeNumber_7 rfl ?_
  refine zr_get F 0 2 zd_OB_tapeNumber_8 (zu_s _ _ _) rfl (by decide) zw_490 rfl (by rfl) ?_
  refine zr_aload_n F zd_OB_tapeNumber_11 rfl ?_
  refine zr_get F 0 3 zd_OB_tapeNumber_12 (zu_s _ _ _) rfl (by decide) zw_491 rfl (by rfl) ?_
  refine zr_iload_n F zd_OB_tapeNumber_15 rfl ?_
  refine zr_iload_n F zd_OB_tapeNumber_16 rfl ?_
  refine zr_ishr F zd_OB_tapeNumber_17 ?_
  refine zr_i2b F zd_OB_tapeNumber_18 ?_
  refine zr_bast F zd_OB_tapeNumber_19 ((zu_n _ (by decide)).trans (zu_s _ _ _)) (vp_in_nI (by omega) (by decide)) ?_
  refine zr_norm (zu (zu f 1 (.inl (tA 1, 65536, .inl (upd (upd (upd (g) (t) (zbyte v 24)) (t + 1) (zbyte v 16)) (t + 2) (zbyte v 8))))) 0 (.inr (0, [.int w, .int h, .ref (b + 1), .int (nI (t + 2)), .ref (b + 2), .ref (b + sc), .ref (b + 3), .ref (b + 1121), .ref (b + 1178), .ref (b + 5), .int gr, .int pk]))) n (by rw [nI_clamp (by omega)]; exact zu_mid (by decide) _ _ _) rfl ?_
  refine zr_aload_n F zd_OB_tapeNumber_20 rfl ?_
  refine zr_dup F zd_OB_tapeNumber_21 rfl ?_
  refine zr_get F 0 3 zd_OB_tapeNumber_22 (zu_s _ _ _) rfl (by decide) zw_491 rfl (by rfl) ?_
  refine zr_iconstv (v := 1) F zd_OB_tapeNumber_25 (by decide) ?_
  refine zr_iadd F zd_OB_tapeNumber_26 ?_
  refine zr_topi (fun y2 hy2 => ?_)
  obtain rfl : y2 = nI (t + 3) := hy2.trans (nI_1 (t + 2))
  refine zr_put F 0 3 zd_OB_tapeNumber_27 (zu_s _ _ _) rfl (by decide) zw_491 rfl rfl rfl rfl (by exact (Nat.le_of_ble_eq_true rfl)) ?_
  refine zr_norm (zu (zu f 1 (.inl (tA 1, 65536, .inl (upd (upd (upd (g) (t) (zbyte v 24)) (t + 1) (zbyte v 16)) (t + 2) (zbyte v 8))))) 0 (.inr (0, [.int w, .int h, .ref (b + 1), .int (nI (t + 3)), .ref (b + 2), .ref (b + sc), .ref (b + 3), .ref (b + 1121), .ref (b + 1178), .ref (b + 5), .int gr, .int pk]))) n (zu_zu _ _ _ _) rfl ?_
  refine zr_iinc (v := 0) F zd_OB_tapeNumber_30 rfl (by decide) (by decide) ?_
  refine zr_goto F 3 zd_OB_tapeNumber_33 (by decide) ?_
  refine zr_loc (L' := [(0, .ref (b + 0)), (1, .int v), (2, .int 0)]) ⟨rfl, rfl, rfl, trivial⟩ ?_
  refine zr_iload_n F zd_OB_tapeNumber_3 rfl ?_
  refine zr_if_lt F 36 zd_OB_tapeNumber_4 (by decide) (fun h => absurd h (by decide)) (fun _ => ?_)
  refine zr_aload_n F zd_OB_tapeNumber_7 rfl ?_
  refine zr_get F 0 2 zd_OB_tapeNumber_8 (zu_s _ _ _) rfl (by decide) zw_490 rfl (by rfl) ?_
  refine zr_aload_n F zd_OB_tapeNumber_11 rfl ?_
  refine zr_get F 0 3 zd_OB_tapeNumber_12 (zu_s _ _ _) rfl (by decide) zw_491 rfl (by rfl) ?_
  refine zr_iload_n F zd_OB_tapeNumber_15 rfl ?_
  refine zr_iload_n F zd_OB_tapeNumber_16 rfl ?_
  refine zr_ishr F zd_OB_tapeNumber_17 ?_
  refine zr_i2b F zd_OB_tapeNumber_18 ?_
  refine zr_bast F zd_OB_tapeNumber_19 ((zu_n _ (by decide)).trans (zu_s _ _ _)) (vp_in_nI (by omega) (by decide)) ?_
  refine zr_norm (zu (zu f 1 (.inl (tA 1, 65536, .inl (upd (upd (upd (upd (g) (t) (zbyte v 24)) (t + 1) (zbyte v 16)) (t + 2) (zbyte v 8)) (t + 3) (zbyte v 0))))) 0 (.inr (0, [.int w, .int h, .ref (b + 1), .int (nI (t + 3)), .ref (b + 2), .ref (b + sc), .ref (b + 3), .ref (b + 1121), .ref (b + 1178), .ref (b + 5), .int gr, .int pk]))) n (by rw [nI_clamp (by omega)]; exact zu_mid (by decide) _ _ _) rfl ?_
  refine zr_aload_n F zd_OB_tapeNumber_20 rfl ?_
  refine zr_dup F zd_OB_tapeNumber_21 rfl ?_
  refine zr_get F 0 3 zd_OB_tapeNumber_22 (zu_s _ _ _) rfl (by decide) zw_491 rfl (by rfl) ?_
  refine zr_iconstv (v := 1) F zd_OB_tapeNumber_25 (by decide) ?_
  refine zr_iadd F zd_OB_tapeNumber_26 ?_
  refine zr_topi (fun y3 hy3 => ?_)
  obtain rfl : y3 = nI (t + 4) := hy3.trans (nI_1 (t + 3))
  refine zr_put F 0 3 zd_OB_tapeNumber_27 (zu_s _ _ _) rfl (by decide) zw_491 rfl rfl rfl rfl (by exact (Nat.le_of_ble_eq_true rfl)) ?_
  refine zr_norm (zu (zu f 1 (.inl (tA 1, 65536, .inl (upd (upd (upd (upd (g) (t) (zbyte v 24)) (t + 1) (zbyte v 16)) (t + 2) (zbyte v 8)) (t + 3) (zbyte v 0))))) 0 (.inr (0, [.int w, .int h, .ref (b + 1), .int (nI (t + 4)), .ref (b + 2), .ref (b + sc), .ref (b + 3), .ref (b + 1121), .ref (b + 1178), .ref (b + 5), .int gr, .int pk]))) n (zu_zu _ _ _ _) rfl ?_
  refine zr_iinc (v := (-8)) F zd_OB_tapeNumber_30 rfl (by decide) (by decide) ?_
  refine zr_goto F 3 zd_OB_tapeNumber_33 (by decide) ?_
  refine zr_loc (L' := [(0, .ref (b + 0)), (1, .int v), (2, .int (-8))]) ⟨rfl, rfl, rfl, trivial⟩ ?_
  refine zr_iload_n F zd_OB_tapeNumber_3 rfl ?_
  refine zr_if_lt F 36 zd_OB_tapeNumber_4 (by decide) (fun _ => ?_) (fun h => absurd (by decide) h)
  exact zr_vret F hr zd_OB_tapeNumber_36 (Nat.le_of_ble_eq_true rfl) (Nat.le_of_ble_eq_true rfl) ⟨rfl, rfl, rfl⟩
abbrev zb_MD_feedOne : ByteArray := prog_14_method_4_code
def zy_MD_feedOne : MethodName := ⟨"OrreryBoxModel", "feedOne", "(I)V"⟩
theorem zc_MD_feedOne : Cond.code zy_MD_feedOne zb_MD_feedOne 3 none ∈ gw := gw_t 1752 (by decide +kernel) rfl
theorem zq_MD_feedOne : zy_MD_feedOne.cls ≠ "java/lang/invoke/MethodHandle" ∧ zy_MD_feedOne.cls ≠ "java/lang/invoke/VarHandle" ∧ (parseMethodDescriptor zy_MD_feedOne.desc).map (fun d => d.parameters.length) = some 1 := by decide +kernel
theorem zd_MD_feedOne_0 : decode zb_MD_feedOne 0 = .ok (.bipush 24, 2) := by decide +kernel
theorem zd_MD_feedOne_2 : decode zb_MD_feedOne 2 = .ok (.istore_n 2, 1) := by decide +kernel
theorem zd_MD_feedOne_3 : decode zb_MD_feedOne 3 = .ok (.iload_n 2, 1) := by decide +kernel
theorem zd_MD_feedOne_4 : decode zb_MD_feedOne 4 = .ok (.ifCond .lt 32, 3) := by decide +kernel
theorem zd_MD_feedOne_7 : decode zb_MD_feedOne 7 = .ok (.aload_n 0, 1) := by decide +kernel
theorem zd_MD_feedOne_8 : decode zb_MD_feedOne 8 = .ok (.getfield 8, 3) := by decide +kernel
theorem zd_MD_feedOne_11 : decode zb_MD_feedOne 11 = .ok (.aload_n 0, 1) := by decide +kernel
theorem zd_MD_feedOne_12 : decode zb_MD_feedOne 12 = .ok (.getfield 83, 3) := by decide +kernel
theorem zd_MD_feedOne_15 : decode zb_MD_feedOne 15 = .ok (.iload_n 1, 1) := by decide +kernel
theorem zd_MD_feedOne_16 : decode zb_MD_feedOne 16 = .ok (.iload_n 2, 1) := by decide +kernel
theorem zd_MD_feedOne_17 : decode zb_MD_feedOne 17 = .ok (.ishr, 1) := by decide +kernel
theorem zd_MD_feedOne_18 : decode zb_MD_feedOne 18 = .ok (.i2b, 1) := by decide +kernel
theorem zd_MD_feedOne_19 : decode zb_MD_feedOne 19 = .ok (.bastore, 1) := by decide +kernel
theorem zd_MD_feedOne_20 : decode zb_MD_feedOne 20 = .ok (.aload_n 0, 1) := by decide +kernel
theorem zd_MD_feedOne_21 : decode zb_MD_feedOne 21 = .ok (.dup, 1) := by decide +kernel
theorem zd_MD_feedOne_22 : decode zb_MD_feedOne 22 = .ok (.getfield 83, 3) := by decide +kernel
theorem zd_MD_feedOne_25 : decode zb_MD_feedOne 25 = .ok (.iconst 1, 1) := by decide +kernel
theorem zd_MD_feedOne_26 : decode zb_MD_feedOne 26 = .ok (.iadd, 1) := by decide +kernel
theorem zd_MD_feedOne_27 : decode zb_MD_feedOne 27 = .ok (.putfield 83, 3) := by decide +kernel
theorem zd_MD_feedOne_30 : decode zb_MD_feedOne 30 = .ok (.iinc 2 (-8), 3) := by decide +kernel
theorem zd_MD_feedOne_33 : decode zb_MD_feedOne 33 = .ok (.goto (-30), 3) := by decide +kernel
theorem zd_MD_feedOne_36 : decode zb_MD_feedOne 36 = .ok (.return_, 1) := by decide +kernel
set_option maxHeartbeats 4000000 in
set_option maxRecDepth 100000 in
theorem c_MD_feedOne (l : Launch) (D : va_G) (tA : Nat → ClassId) (b : Nat) (f : zV) (n : Nat) (v : Int32) (t : Nat) (g : Nat → Int32) (w h ti th wk wa bg pk : Int32) (h4 : t + 4 ≤ 65536) (hf : f 1185 = some (.inr (1, [.int w, .int h, .ref (b + 1186), .int (nI t), .ref (b + 1187), .ref (b + 1217), .ref (b + 1247), .ref (b + 1277), .ref (b + 1285), .ref (b + 1278), .int ti, .int th, .int wk, .int wa, .ref (b + 1281), .int bg, .ref (b + 1282), .ref (b + 1283), .ref (b + 1284), .int pk]))) (ht : f 1186 = some (.inl (tA 1, 65536, .inl g))) : zM l D tA b zy_MD_feedOne zb_MD_feedOne 3 none 0 0 0 0 [.ref (b + 1185), .int v] f n (zE none (zu (zu f 1186 (.inl (tA 1, 65536, .inl (zt4 g t v)))) 1185 (.inr (1, [.int w, .int h, .ref (b + 1186), .int (nI (t + 4)), .ref (b + 1187), .ref (b + 1217), .ref (b + 1247), .ref (b + 1277), .ref (b + 1285), .ref (b + 1278), .int ti, .int th, .int wk, .int wa, .ref (b + 1281), .int bg, .ref (b + 1282), .ref (b + 1283), .ref (b + 1284), .int pk]))) n) := by
  refine zM_of (own := "OrreryBoxModel") (plainFor_of_name (by decide)) rfl (Nat.le_of_ble_eq_true rfl) (fun p e s m below meth c F hr hin hH => ?_)
  refine zr_bipushv (v := 24) F zd_MD_feedOne_0 (by decide) ?_
  refine zr_istore_n F zd_MD_feedOne_2 (by decide) ?_
  refine zr_loc (L' := [(0, .ref (b + 1185)), (1, .int v), (2, .int 24)]) ⟨rfl, rfl, rfl, trivial⟩ ?_
  refine zr_iload_n F zd_MD_feedOne_3 rfl ?_
  refine zr_if_lt F 36 zd_MD_feedOne_4 (by decide) (fun h => absurd h (by decide)) (fun _ => ?_)
  refine zr_aload_n F zd_MD_feedOne_7 rfl ?_
  refine zr_get F 1 2 zd_MD_feedOne_8 hf rfl (by decide) zw_1682 rfl (by rfl) ?_
  refine zr_aload_n F zd_MD_feedOne_11 rfl ?_
  refine zr_get F 1 3 zd_MD_feedOne_12 hf rfl (by decide) zw_1683 rfl (by rfl) ?_
  refine zr_iload_n F zd_MD_feedOne_15 rfl ?_
  refine zr_iload_n F zd_MD_feedOne_16 rfl ?_
  refine zr_ishr F zd_MD_feedOne_17 ?_
  refine zr_i2b F zd_MD_feedOne_18 ?_
  refine zr_bast F zd_MD_feedOne_19 ht (vp_in_nI (by omega) (by decide)) ?_
  refine zr_norm (zu (zu f 1186 (.inl (tA 1, 65536, .inl (upd (g) (t) (zbyte v 24))))) 1185 (.inr (1, [.int w, .int h, .ref (b + 1186), .int (nI t), .ref (b + 1187), .ref (b + 1217), .ref (b + 1247), .ref (b + 1277), .ref (b + 1285), .ref (b + 1278), .int ti, .int th, .int wk, .int wa, .ref (b + 1281), .int bg, .ref (b + 1282), .ref (b + 1283), .ref (b + 1284), .int pk]))) n (by rw [nI_clamp (by omega)]; exact zu_id ((zu_n _ (by decide)).trans hf)) rfl ?_
  refine zr_aload_n F zd_MD_feedOne_20 rfl ?_
  refine zr_dup F zd_MD_feedOne_21 rfl ?_
  refine zr_get F 1 3 zd_MD_feedOne_22 (zu_s _ _ _) rfl (by decide) zw_1683 rfl (by rfl) ?_
  refine zr_iconstv (v := 1) F zd_MD_feedOne_25 (by decide) ?_
  refine zr_iadd F zd_MD_feedOne_26 ?_
  refine zr_topi (fun y0 hy0 => ?_)
  obtain rfl : y0 = nI (t + 1) := hy0.trans (nI_1 (t))
  refine zr_put F 1 3 zd_MD_feedOne_27 (zu_s _ _ _) rfl (by decide) zw_1683 rfl rfl rfl rfl (by exact (Nat.le_of_ble_eq_true rfl)) ?_
  refine zr_norm (zu (zu f 1186 (.inl (tA 1, 65536, .inl (upd (g) (t) (zbyte v 24))))) 1185 (.inr (1, [.int w, .int h, .ref (b + 1186), .int (nI (t + 1)), .ref (b + 1187), .ref (b + 1217), .ref (b + 1247), .ref (b + 1277), .ref (b + 1285), .ref (b + 1278), .int ti, .int th, .int wk, .int wa, .ref (b + 1281), .int bg, .ref (b + 1282), .ref (b + 1283), .ref (b + 1284), .int pk]))) n (zu_zu _ _ _ _) rfl ?_
  refine zr_iinc (v := 16) F zd_MD_feedOne_30 rfl (by decide) (by decide) ?_
  refine zr_goto F 3 zd_MD_feedOne_33 (by decide) ?_
  refine zr_loc (L' := [(0, .ref (b + 1185)), (1, .int v), (2, .int 16)]) ⟨rfl, rfl, rfl, trivial⟩ ?_
  refine zr_iload_n F zd_MD_feedOne_3 rfl ?_
  refine zr_if_lt F 36 zd_MD_feedOne_4 (by decide) (fun h => absurd h (by decide)) (fun _ => ?_)
  refine zr_aload_n F zd_MD_feedOne_7 rfl ?_
  refine zr_get F 1 2 zd_MD_feedOne_8 (zu_s _ _ _) rfl (by decide) zw_1682 rfl (by rfl) ?_
  refine zr_aload_n F zd_MD_feedOne_11 rfl ?_
  refine zr_get F 1 3 zd_MD_feedOne_12 (zu_s _ _ _) rfl (by decide) zw_1683 rfl (by rfl) ?_
  refine zr_iload_n F zd_MD_feedOne_15 rfl ?_
  refine zr_iload_n F zd_MD_feedOne_16 rfl ?_
  refine zr_ishr F zd_MD_feedOne_17 ?_
  refine zr_i2b F zd_MD_feedOne_18 ?_
  refine zr_bast F zd_MD_feedOne_19 ((zu_n _ (by decide)).trans (zu_s _ _ _)) (vp_in_nI (by omega) (by decide)) ?_
  refine zr_norm (zu (zu f 1186 (.inl (tA 1, 65536, .inl (upd (upd (g) (t) (zbyte v 24)) (t + 1) (zbyte v 16))))) 1185 (.inr (1, [.int w, .int h, .ref (b + 1186), .int (nI (t + 1)), .ref (b + 1187), .ref (b + 1217), .ref (b + 1247), .ref (b + 1277), .ref (b + 1285), .ref (b + 1278), .int ti, .int th, .int wk, .int wa, .ref (b + 1281), .int bg, .ref (b + 1282), .ref (b + 1283), .ref (b + 1284), .int pk]))) n (by rw [nI_clamp (by omega)]; exact zu_mid (by decide) _ _ _) rfl ?_
  refine zr_aload_n F zd_MD_feedOne_20 rfl ?_
  refine zr_dup F zd_MD_feedOne_21 rfl ?_
  refine zr_get F 1 3 zd_MD_feedOne_22 (zu_s _ _ _) rfl (by decide) zw_1683 rfl (by rfl) ?_
  refine zr_iconstv (v := 1) F zd_MD_feedOne_25 (by decide) ?_
  refine zr_iadd F zd_MD_feedOne_26 ?_
  refine zr_topi (fun y1 hy1 => ?_)
  obtain rfl : y1 = nI (t + 2) := hy1.trans (nI_1 (t + 1))
  refine zr_put F 1 3 zd_MD_feedOne_27 (zu_s _ _ _) rfl (by decide) zw_1683 rfl rfl rfl rfl (by exact (Nat.le_of_ble_eq_true rfl)) ?_
  refine zr_norm (zu (zu f 1186 (.inl (tA 1, 65536, .inl (upd (upd (g) (t) (zbyte v 24)) (t + 1) (zbyte v 16))))) 1185 (.inr (1, [.int w, .int h, .ref (b + 1186), .int (nI (t + 2)), .ref (b + 1187), .ref (b + 1217), .ref (b + 1247), .ref (b + 1277), .ref (b + 1285), .ref (b + 1278), .int ti, .int th, .int wk, .int wa, .ref (b + 1281), .int bg, .ref (b + 1282), .ref (b + 1283), .ref (b + 1284), .int pk]))) n (zu_zu _ _ _ _) rfl ?_
  refine zr_iinc (v := 8) F zd_MD_feedOne_30 rfl (by decide) (by decide) ?_
  refine zr_goto F 3 zd_MD_feedOne_33 (by decide) ?_
  refine zr_loc (L' := [(0, .ref (b + 1185)), (1, .int v), (2, .int 8)]) ⟨rfl, rfl, rfl, trivial⟩ ?_
  refine zr_iload_n F zd_MD_feedOne_3 rfl ?_
  refine zr_if_lt F 36 zd_MD_feedOne_4 (by decide) (fun h => absurd h (by decide)) (fun _ => ?_)
  refine zr_aload_n F zd_MD_feedOne_7 rfl ?_
  refine zr_get F 1 2 zd_MD_feedOne_8 (zu_s _ _ _) rfl (by decide) zw_1682 rfl (by rfl) ?_
  refine zr_aload_n F zd_MD_feedOne_11 rfl ?_
  refine zr_get F 1 3 zd_MD_feedOne_12 (zu_s _ _ _) rfl (by decide) zw_1683 rfl (by rfl) ?_
  refine zr_iload_n F zd_MD_feedOne_15 rfl ?_
  refine zr_iload_n F zd_MD_feedOne_16 rfl ?_
  refine zr_ishr F zd_MD_feedOne_17 ?_
  refine zr_i2b F zd_MD_feedOne_18 ?_
  refine zr_bast F zd_MD_feedOne_19 ((zu_n _ (by decide)).trans (zu_s _ _ _)) (vp_in_nI (by omega) (by decide)) ?_
  refine zr_norm (zu (zu f 1186 (.inl (tA 1, 65536, .inl (upd (upd (upd (g) (t) (zbyte v 24)) (t + 1) (zbyte v 16)) (t + 2) (zbyte v 8))))) 1185 (.inr (1, [.int w, .int h, .ref (b + 1186), .int (nI (t + 2)), .ref (b + 1187), .ref (b + 1217), .ref (b + 1247), .ref (b + 1277), .ref (b + 1285), .ref (b + 1278), .int ti, .int th, .int wk, .int wa, .ref (b + 1281), .int bg, .ref (b + 1282), .ref (b + 1283), .ref (b + 1284), .int pk]))) n (by rw [nI_clamp (by omega)]; exact zu_mid (by decide) _ _ _) rfl ?_
  refine zr_aload_n F zd_MD_feedOne_20 rfl ?_
  refine zr_dup F zd_MD_feedOne_21 rfl ?_
  refine zr_get F 1 3 zd_MD_feedOne_22 (zu_s _ _ _) rfl (by decide) zw_1683 rfl (by rfl) ?_
  refine zr_iconstv (v := 1) F zd_MD_feedOne_25 (by decide) ?_
  refine zr_iadd F zd_MD_feedOne_26 ?_
  refine zr_topi (fun y2 hy2 => ?_)
  obtain rfl : y2 = nI (t + 3) := hy2.trans (nI_1 (t + 2))
  refine zr_put F 1 3 zd_MD_feedOne_27 (zu_s _ _ _) rfl (by decide) zw_1683 rfl rfl rfl rfl (by exact (Nat.le_of_ble_eq_true rfl)) ?_
  refine zr_norm (zu (zu f 1186 (.inl (tA 1, 65536, .inl (upd (upd (upd (g) (t) (zbyte v 24)) (t + 1) (zbyte v 16)) (t + 2) (zbyte v 8))))) 1185 (.inr (1, [.int w, .int h, .ref (b + 1186), .int (nI (t + 3)), .ref (b + 1187), .ref (b + 1217), .ref (b + 1247), .ref (b + 1277), .ref (b + 1285), .ref (b + 1278), .int ti, .int th, .int wk, .int wa, .ref (b + 1281), .int bg, .ref (b + 1282), .ref (b + 1283), .ref (b + 1284), .int pk]))) n (zu_zu _ _ _ _) rfl ?_
  refine zr_iinc (v := 0) F zd_MD_feedOne_30 rfl (by decide) (by decide) ?_
  refine zr_goto F 3 zd_MD_feedOne_33 (by decide) ?_
  refine zr_loc (L' := [(0, .ref (b + 1185)), (1, .int v), (2, .int 0)]) ⟨rfl, rfl, rfl, trivial⟩ ?_
  refine zr_iload_n F zd_MD_feedOne_3 rfl ?_
  refine zr_if_lt F 36 zd_MD_feedOne_4 (by decide) (fun h => absurd h (by decide)) (fun _ => ?_)
  refine zr_aload_n F zd_MD_feedOne_7 rfl ?_
  refine zr_get F 1 2 zd_MD_feedOne_8 (zu_s _ _ _) rfl (by decide) zw_1682 rfl (by rfl) ?_
  refine zr_aload_n F zd_MD_feedOne_11 rfl ?_
  refine zr_get F 1 3 zd_MD_feedOne_12 (zu_s _ _ _) rfl (by decide) zw_1683 rfl (by rfl) ?_
  refine zr_iload_n F zd_MD_feedOne_15 rfl ?_
  refine zr_iload_n F zd_MD_feedOne_16 rfl ?_
  refine zr_ishr F zd_MD_feedOne_17 ?_
  refine zr_i2b F zd_MD_feedOne_18 ?_
  refine zr_bast F zd_MD_feedOne_19 ((zu_n _ (by decide)).trans (zu_s _ _ _)) (vp_in_nI (by omega) (by decide)) ?_
  refine zr_norm (zu (zu f 1186 (.inl (tA 1, 65536, .inl (upd (upd (upd (upd (g) (t) (zbyte v 24)) (t + 1) (zbyte v 16)) (t + 2) (zbyte v 8)) (t + 3) (zbyte v 0))))) 1185 (.inr (1, [.int w, .int h, .ref (b + 1186), .int (nI (t + 3)), .ref (b + 1187), .ref (b + 1217), .ref (b + 1247), .ref (b + 1277), .ref (b + 1285), .ref (b + 1278), .int ti, .int th, .int wk, .int wa, .ref (b + 1281), .int bg, .ref (b + 1282), .ref (b + 1283), .ref (b + 1284), .int pk]))) n (by rw [nI_clamp (by omega)]; exact zu_mid (by decide) _ _ _) rfl ?_
  refine zr_aload_n F zd_MD_feedOne_20 rfl ?_
  refine zr_dup F zd_MD_feedOne_21 rfl ?_
  refine zr_get F 1 3 zd_MD_feedOne_22 (zu_s _ _ _) rfl (by decide) zw_1683 rfl (by rfl) ?_
  refine zr_iconstv (v := 1) F zd_MD_feedOne_25 (by decide) ?_
  refine zr_iadd F zd_MD_feedOne_26 ?_
  refine zr_topi (fun y3 hy3 => ?_)
  obtain rfl : y3 = nI (t + 4) := hy3.trans (nI_1 (t + 3))
  refine zr_put F 1 3 zd_MD_feedOne_27 (zu_s _ _ _) rfl (by decide) zw_1683 rfl rfl rfl rfl (by exact (Nat.le_of_ble_eq_true rfl)) ?_
  refine zr_norm (zu (zu f 1186 (.inl (tA 1, 65536, .inl (upd (upd (upd (upd (g) (t) (zbyte v 24)) (t + 1) (zbyte v 16)) (t + 2) (zbyte v 8)) (t + 3) (zbyte v 0))))) 1185 (.inr (1, [.int w, .int h, .ref (b + 1186), .int (nI (t + 4)), .ref (b + 1187), .ref (b + 1217), .ref (b + 1247), .ref (b + 1277), .ref (b + 1285), .ref (b + 1278), .int ti, .int th, .int wk, .int wa, .ref (b + 1281), .int bg, .ref (b + 1282), .ref (b + 1283), .ref (b + 1284), .int pk]))) n (zu_zu _ _ _ _) rfl ?_
  refine zr_iinc (v := (-8)) F zd_MD_feedOne_30 rfl (by decide) (by decide) ?_
  refine zr_goto F 3 zd_MD_feedOne_33 (by decide) ?_
  refine zr_loc (L' := [(0, .ref (b + 1185)), (1, .int v), (2, .int (-8))]) ⟨rfl, rfl, rfl, trivial⟩ ?_
  refine zr_iload_n F zd_MD_feedOne_3 rfl ?_
  refine zr_if_lt F 36 zd_MD_feedOne_4 (by decide) (fun _ => ?_) (fun h => absurd (by decide) h)
  exact zr_vret F hr zd_MD_feedOne_36 (Nat.le_of_ble_eq_true rfl) (Nat.le_of_ble_eq_true rfl) ⟨rfl, rfl, rfl⟩
theorem z2_2 {f : zV} {k j : Nat} {A A' O O' : va_E} (h : k ≠ j) : zu (zu (zu (zu f k A) j O) k A') j O' = zu (zu f k A') j O' := by
  rw [zu_mid h, zu_zu]
def zt20 (g : Nat → Int32) (t : Nat) (v0 v1 v2 v3 v4 : Int32) : Nat → Int32 := zt4 (zt4 (zt4 (zt4 (zt4 g t v0) (t + 4) v1) (t + 8) v2) (t + 12) v3) (t + 16) v4
abbrev zb_OB_feed : ByteArray := prog_1_method_2_code
def zy_OB_feed : MethodName := ⟨"OrreryBox", "feed", "(IIIII)Z"⟩
theorem zc_OB_feed : Cond.code zy_OB_feed zb_OB_feed 6 (some .boolean) ∈ gw := gw_t 528 (by decide +kernel) rfl
theorem zq_OB_feed : zy_OB_feed.cls ≠ "java/lang/invoke/MethodHandle" ∧ zy_OB_feed.cls ≠ "java/lang/invoke/VarHandle" ∧ (parseMethodDescriptor zy_OB_feed.desc).map (fun d => d.parameters.length) = some 5 := by decide +kernel
theorem zd_OB_feed_0 : decode zb_OB_feed 0 = .ok (.aload_n 0, 1) := by decide +kernel
theorem zd_OB_feed_1 : decode zb_OB_feed 1 = .ok (.getfield 69, 3) := by decide +kernel
theorem zd_OB_feed_4 : decode zb_OB_feed 4 = .ok (.bipush 20, 2) := by decide +kernel
theorem zd_OB_feed_6 : decode zb_OB_feed 6 = .ok (.iadd, 1) := by decide +kernel
theorem zd_OB_feed_7 : decode zb_OB_feed 7 = .ok (.ldc 9, 2) := by decide +kernel
theorem zd_OB_feed_9 : decode zb_OB_feed 9 = .ok (.if_icmp .le 5, 3) := by decide +kernel
theorem zd_OB_feed_12 : decode zb_OB_feed 12 = .ok (.iconst 0, 1) := by decide +kernel
theorem zd_OB_feed_13 : decode zb_OB_feed 13 = .ok (.ireturn, 1) := by decide +kernel
theorem zd_OB_feed_14 : decode zb_OB_feed 14 = .ok (.aload_n 0, 1) := by decide +kernel
theorem zd_OB_feed_15 : decode zb_OB_feed 15 = .ok (.iload_n 1, 1) := by decide +kernel
theorem zd_OB_feed_16 : decode zb_OB_feed 16 = .ok (.invokevirtual 72, 3) := by decide +kernel
theorem zd_OB_feed_19 : decode zb_OB_feed 19 = .ok (.aload_n 0, 1) := by decide +kernel
theorem zd_OB_feed_20 : decode zb_OB_feed 20 = .ok (.iload_n 2, 1) := by decide +kernel
theorem zd_OB_feed_21 : decode zb_OB_feed 21 = .ok (.invokevirtual 72, 3) := by decide +kernel
theorem zd_OB_feed_24 : decode zb_OB_feed 24 = .ok (.aload_n 0, 1) := by decide +kernel
theorem zd_OB_feed_25 : decode zb_OB_feed 25 = .ok (.iload_n 3, 1) := by decide +kernel
theorem zd_OB_feed_26 : decode zb_OB_feed 26 = .ok (.invokevirtual 72, 3) := by decide +kernel
theorem zd_OB_feed_29 : decode zb_OB_feed 29 = .ok (.aload_n 0, 1) := by decide +kernel
theorem zd_OB_feed_30 : decode zb_OB_feed 30 = .ok (.iload 4, 2) := by decide +kernel
theorem zd_OB_feed_32 : decode zb_OB_feed 32 = .ok (.invokevirtual 72, 3) := by decide +kernel
theorem zd_OB_feed_35 : decode zb_OB_feed 35 = .ok (.aload_n 0, 1) := by decide +kernel
theorem zd_OB_feed_36 : decode zb_OB_feed 36 = .ok (.iload 5, 2) := by decide +kernel
theorem zd_OB_feed_38 : decode zb_OB_feed 38 = .ok (.invokevirtual 72, 3) := by decide +kernel
theorem zd_OB_feed_41 : decode zb_OB_feed 41 = .ok (.iconst 1, 1) := by decide +kernel
theorem zd_OB_feed_42 : decode zb_OB_feed 42 = .ok (.ireturn, 1) := by decide +kernel
theorem zw_529 : (Jvm.Cond.methodLink "OrreryBox" (72 : Nat) ({ cls := "OrreryBox", name := "tapeNumber", desc := "(I)V" } : Jvm.MethodName)) ∈ gw := gw_t 529 (by decide +kernel) rfl
theorem zw_531 : (Jvm.Cond.instanceMethod ({ cls := "OrreryBox", name := "tapeNumber", desc := "(I)V" } : Jvm.MethodName)) ∈ gw := gw_t 531 (by decide +kernel) rfl
theorem zv_1 : (Jvm.Cond.selects "OrreryBox" (⟨"OrreryBox", "tapeNumber", "(I)V"⟩ : MethodName) ⟨"OrreryBox", "tapeNumber", "(I)V"⟩) ∈ gw := gw_s 1 (by decide +kernel) rfl
theorem zs_OB_72 : zwV "OrreryBox" 72 "OrreryBox" zy_OB_tapeNumber zb_OB_tapeNumber 3 none := ⟨zw_529, zw_531, zv_1, zw_1, zc_OB_tapeNumber⟩
set_option maxHeartbeats 4000000 in
set_option maxRecDepth 100000 in
theorem c_OB_feed (l : Launch) (D : va_G) (tA : Nat → ClassId) (b : Nat) (f : zV) (n : Nat) (v0 v1 v2 v3 v4 : Int32) (t : Nat) (g : Nat → Int32) (w h : Int32) (sc : Nat) (gr pk : Int32) (hT : t ≤ 65536) (hf : f 0 = some (.inr (0, [.int w, .int h, .ref (b + 1), .int (nI t), .ref (b + 2), .ref (b + sc), .ref (b + 3), .ref (b + 1121), .ref (b + 1178), .ref (b + 5), .int gr, .int pk]))) (ht : f 1 = some (.inl (tA 1, 65536, .inl g))) : zM l D tA b zy_OB_feed zb_OB_feed 6 (some .boolean) 1 22 0 0 [.ref (b + 0), .int v0, .int v1, .int v2, .int v3, .int v4] f n (zE (some (.int (if nI t + 20 ≤ 65536 then 1 else 0))) (if nI t + 20 ≤ 65536 then zu (zu f 1 (.inl (tA 1, 65536, .inl (zt20 g t v0 v1 v2 v3 v4)))) 0 (.inr (0, [.int w, .int h, .ref (b + 1), .int (nI (t + 20)), .ref (b + 2), .ref (b + sc), .ref (b + 3), .ref (b + 1121), .ref (b + 1178), .ref (b + 5), .int gr, .int pk])) else f) n) := by
  refine zM_of (own := "OrreryBox") (plainFor_of_name (by decide)) rfl (Nat.le_of_ble_eq_true rfl) (fun p e s m below meth c F hr hin hH => ?_)
  refine zr_aload_n F zd_OB_feed_0 rfl ?_
  refine zr_get F 0 3 zd_OB_feed_1 hf rfl (by decide) zw_491 rfl (by rfl) ?_
  refine zr_bipushv (v := 20) F zd_OB_feed_4 (by decide) ?_
  refine zr_iadd F zd_OB_feed_6 ?_
  refine zr_ldc F zd_OB_feed_7 zw_37 ?_
  refine zr_icmp_le F 14 zd_OB_feed_9 (by decide) (fun hb => ?_) (fun hb => ?_)
  ·
    have ht20 : t + 20 ≤ 65536 := by rw [show (20 : Int32) = nI 20 from rfl, nI_add, show (65536 : Int32) = nI 65536 from rfl, nI_leI (by omega) (by decide)] at hb; exact hb
    refine zr_norm (zu (zu f 1 (.inl (tA 1, 65536, .inl (g)))) 0 (.inr (0, [.int w, .int h, .ref (b + 1), .int (nI t), .ref (b + 2), .ref (b + sc), .ref (b + 3), .ref (b + 1121), .ref (b + 1178), .ref (b + 5), .int gr, .int pk]))) n (by rw [← zu_id ht]; exact zu_id hf) rfl ?_
    refine zr_aload_n F zd_OB_feed_14 rfl ?_
    refine zr_iload_n F zd_OB_feed_15 rfl ?_
    refine zr_callV0 F (c_OB_tapeNumber l D tA b _ _ v0 (t) (g) w h sc gr pk (by omega) (zu_s _ _ _) ((zu_n _ (by decide)).trans (zu_s _ _ _))) zd_OB_feed_16 (zu_s _ _ _) rfl zs_OB_72 rfl zq_OB_tapeNumber rfl rfl ⟨(Nat.le_of_ble_eq_true rfl), (Nat.le_of_ble_eq_true rfl)⟩ (Nat.le_of_ble_eq_true rfl) ⟨(Nat.le_of_ble_eq_true rfl), (Nat.le_of_ble_eq_true rfl)⟩ ?_
    refine zr_norm (zu (zu f 1 (.inl (tA 1, 65536, .inl (zt4 (g) (t) v0)))) 0 (.inr (0, [.int w, .int h, .ref (b + 1), .int (nI (t + 4)), .ref (b + 2), .ref (b + sc), .ref (b + 3), .ref (b + 1121), .ref (b + 1178), .ref (b + 5), .int gr, .int pk]))) n (z2_2 (by decide)) rfl ?_
    refine zr_aload_n F zd_OB_feed_19 rfl ?_
    refine zr_iload_n F zd_OB_feed_20 rfl ?_
    refine zr_callV0 F (c_OB_tapeNumber l D tA b _ _ v1 (t + 4) (zt4 (g) (t) v0) w h sc gr pk (by omega) (zu_s _ _ _) ((zu_n _ (by decide)).trans (zu_s _ _ _))) zd_OB_feed_21 (zu_s _ _ _) rfl zs_OB_72 rfl zq_OB_tapeNumber rfl rfl ⟨(Nat.le_of_ble_eq_true rfl), (Nat.le_of_ble_eq_true rfl)⟩ (Nat.le_of_ble_eq_true rfl) ⟨(Nat.le_of_ble_eq_true rfl), (Nat.le_of_ble_eq_true rfl)⟩ ?_
    refine zr_norm (zu (zu f 1 (.inl (tA 1, 65536, .inl (zt4 (zt4 (g) (t) v0) (t + 4) v1)))) 0 (.inr (0, [.int w, .int h, .ref (b + 1), .int (nI (t + 8)), .ref (b + 2), .ref (b + sc), .ref (b + 3), .ref (b + 1121), .ref (b + 1178), .ref (b + 5), .int gr, .int pk]))) n (z2_2 (by decide)) rfl ?_
    refine zr_aload_n F zd_OB_feed_24 rfl ?_
    refine zr_iload_n F zd_OB_feed_25 rfl ?_
    refine zr_callV0 F (c_OB_tapeNumber l D tA b _ _ v2 (t + 8) (zt4 (zt4 (g) (t) v0) (t + 4) v1) w h sc gr pk (by omega) (zu_s _ _ _) ((zu_n _ (by decide)).trans (zu_s _ _ _))) zd_OB_feed_26 (zu_s _ _ _) rfl zs_OB_72 rfl zq_OB_tapeNumber rfl rfl ⟨(Nat.le_of_ble_eq_true rfl), (Nat.le_of_ble_eq_true rfl)⟩ (Nat.le_of_ble_eq_true rfl) ⟨(Nat.le_of_ble_eq_true rfl), (Nat.le_of_ble_eq_true rfl)⟩ ?_
    refine zr_norm (zu (zu f 1 (.inl (tA 1, 65536, .inl (zt4 (zt4 (zt4 (g) (t) v0) (t + 4) v1) (t + 8) v2)))) 0 (.inr (0, [.int w, .int h, .ref (b + 1), .int (nI (t + 12)), .ref (b + 2), .ref (b + sc), .ref (b + 3), .ref (b + 1121), .ref (b + 1178), .ref (b + 5), .int gr, .int pk]))) n (z2_2 (by decide)) rfl ?_
    refine zr_aload_n F zd_OB_feed_29 rfl ?_
    refine zr_iload F zd_OB_feed_30 rfl ?_
    refine zr_callV0 F (c_OB_tapeNumber l D tA b _ _ v3 (t + 12) (zt4 (zt4 (zt4 (g) (t) v0) (t + 4) v1) (t + 8) v2) w h sc gr pk (by omega) (zu_s _ _ _) ((zu_n _ (by decide)).trans (zu_s _ _ _))) zd_OB_feed_32 (zu_s _ _ _) rfl zs_OB_72 rfl zq_OB_tapeNumber rfl rfl ⟨(Nat.le_of_ble_eq_true rfl), (Nat.le_of_ble_eq_true rfl)⟩ (Nat.le_of_ble_eq_true rfl) ⟨(Nat.le_of_ble_eq_true rfl), (Nat.le_of_ble_eq_true rfl)⟩ ?_
    refine zr_norm (zu (zu f 1 (.inl (tA 1, 65536, .inl (zt4 (zt4 (zt4 (zt4 (g) (t) v0) (t + 4) v1) (t + 8) v2) (t + 12) v3)))) 0 (.inr (0, [.int w, .int h, .ref (b + 1), .int (nI (t + 16)), .ref (b + 2), .ref (b + sc), .ref (b + 3), .ref (b + 1121), .ref (b + 1178), .ref (b + 5), .int gr, .int pk]))) n (z2_2 (by decide)) rfl ?_
    refine zr_aload_n F zd_OB_feed_35 rfl ?_
    refine zr_iload F zd_OB_feed_36 rfl ?_
    refine zr_callV0 F (c_OB_tapeNumber l D tA b _ _ v4 (t + 16) (zt4 (zt4 (zt4 (zt4 (g) (t) v0) (t + 4) v1) (t + 8) v2) (t + 12) v3) w h sc gr pk (by omega) (zu_s _ _ _) ((zu_n _ (by decide)).trans (zu_s _ _ _))) zd_OB_feed_38 (zu_s _ _ _) rfl zs_OB_72 rfl zq_OB_tapeNumber rfl rfl ⟨(Nat.le_of_ble_eq_true rfl), (Nat.le_of_ble_eq_true rfl)⟩ (Nat.le_of_ble_eq_true rfl) ⟨(Nat.le_of_ble_eq_true rfl), (Nat.le_of_ble_eq_true rfl)⟩ ?_
    refine zr_norm (zu (zu f 1 (.inl (tA 1, 65536, .inl (zt4 (zt4 (zt4 (zt4 (zt4 (g) (t) v0) (t + 4) v1) (t + 8) v2) (t + 12) v3) (t + 16) v4)))) 0 (.inr (0, [.int w, .int h, .ref (b + 1), .int (nI (t + 20)), .ref (b + 2), .ref (b + sc), .ref (b + 3), .ref (b + 1121), .ref (b + 1178), .ref (b + 5), .int gr, .int pk]))) n (z2_2 (by decide)) rfl ?_
    refine zr_iconstv (v := 1) F zd_OB_feed_41 (by decide) ?_
    exact zr_zret F hr rfl zd_OB_feed_42 (Nat.le_of_ble_eq_true rfl) (Nat.le_of_ble_eq_true rfl) ⟨by rw [if_pos hb], by rw [if_pos hb]; rfl, rfl⟩
  ·
    refine zr_iconstv (v := 0) F zd_OB_feed_12 (by decide) ?_
    exact zr_zret F hr rfl zd_OB_feed_13 (Nat.le_of_ble_eq_true rfl) (Nat.le_of_ble_eq_true rfl) ⟨by rw [if_neg hb], by rw [if_neg hb], rfl⟩
abbrev zb_MD_feed : ByteArray := prog_14_method_3_code
def zy_MD_feed : MethodName := ⟨"OrreryBoxModel", "feed", "(IIIII)Z"⟩
theorem zc_MD_feed : Cond.code zy_MD_feed zb_MD_feed 6 (some .boolean) ∈ gw := gw_t 1748 (by decide +kernel) rfl
theorem zq_MD_feed : zy_MD_feed.cls ≠ "java/lang/invoke/MethodHandle" ∧ zy_MD_feed.cls ≠ "java/lang/invoke/VarHandle" ∧ (parseMethodDescriptor zy_MD_feed.desc).map (fun d => d.parameters.length) = some 5 := by decide +kernel
theorem zd_MD_feed_0 : decode zb_MD_feed 0 = .ok (.aload_n 0, 1) := by decide +kernel
theorem zd_MD_feed_1 : decode zb_MD_feed 1 = .ok (.iconst 0, 1) := by decide +kernel
theorem zd_MD_feed_2 : decode zb_MD_feed 2 = .ok (.putfield 80, 3) := by decide +kernel
theorem zd_MD_feed_5 : decode zb_MD_feed 5 = .ok (.aload_n 0, 1) := by decide +kernel
theorem zd_MD_feed_6 : decode zb_MD_feed 6 = .ok (.getfield 83, 3) := by decide +kernel
theorem zd_MD_feed_9 : decode zb_MD_feed 9 = .ok (.bipush 20, 2) := by decide +kernel
theorem zd_MD_feed_11 : decode zb_MD_feed 11 = .ok (.iadd, 1) := by decide +kernel
theorem zd_MD_feed_12 : decode zb_MD_feed 12 = .ok (.ldc 7, 2) := by decide +kernel
theorem zd_MD_feed_14 : decode zb_MD_feed 14 = .ok (.if_icmp .le 5, 3) := by decide +kernel
theorem zd_MD_feed_17 : decode zb_MD_feed 17 = .ok (.iconst 0, 1) := by decide +kernel
theorem zd_MD_feed_18 : decode zb_MD_feed 18 = .ok (.ireturn, 1) := by decide +kernel
theorem zd_MD_feed_19 : decode zb_MD_feed 19 = .ok (.aload_n 0, 1) := by decide +kernel
theorem zd_MD_feed_20 : decode zb_MD_feed 20 = .ok (.iload_n 1, 1) := by decide +kernel
theorem zd_MD_feed_21 : decode zb_MD_feed 21 = .ok (.invokevirtual 86, 3) := by decide +kernel
theorem zd_MD_feed_24 : decode zb_MD_feed 24 = .ok (.aload_n 0, 1) := by decide +kernel
theorem zd_MD_feed_25 : decode zb_MD_feed 25 = .ok (.iload_n 2, 1) := by decide +kernel
theorem zd_MD_feed_26 : decode zb_MD_feed 26 = .ok (.invokevirtual 86, 3) := by decide +kernel
theorem zd_MD_feed_29 : decode zb_MD_feed 29 = .ok (.aload_n 0, 1) := by decide +kernel
theorem zd_MD_feed_30 : decode zb_MD_feed 30 = .ok (.iload_n 3, 1) := by decide +kernel
theorem zd_MD_feed_31 : decode zb_MD_feed 31 = .ok (.invokevirtual 86, 3) := by decide +kernel
theorem zd_MD_feed_34 : decode zb_MD_feed 34 = .ok (.aload_n 0, 1) := by decide +kernel
theorem zd_MD_feed_35 : decode zb_MD_feed 35 = .ok (.iload 4, 2) := by decide +kernel
theorem zd_MD_feed_37 : decode zb_MD_feed 37 = .ok (.invokevirtual 86, 3) := by decide +kernel
theorem zd_MD_feed_40 : decode zb_MD_feed 40 = .ok (.aload_n 0, 1) := by decide +kernel
theorem zd_MD_feed_41 : decode zb_MD_feed 41 = .ok (.iload 5, 2) := by decide +kernel
theorem zd_MD_feed_43 : decode zb_MD_feed 43 = .ok (.invokevirtual 86, 3) := by decide +kernel
theorem zd_MD_feed_46 : decode zb_MD_feed 46 = .ok (.iconst 1, 1) := by decide +kernel
theorem zd_MD_feed_47 : decode zb_MD_feed 47 = .ok (.ireturn, 1) := by decide +kernel
theorem zw_1749 : (Jvm.Cond.methodLink "OrreryBoxModel" (86 : Nat) ({ cls := "OrreryBoxModel", name := "feedOne", desc := "(I)V" } : Jvm.MethodName)) ∈ gw := gw_t 1749 (by decide +kernel) rfl
theorem zw_1751 : (Jvm.Cond.instanceMethod ({ cls := "OrreryBoxModel", name := "feedOne", desc := "(I)V" } : Jvm.MethodName)) ∈ gw := gw_t 1751 (by decide +kernel) rfl
theorem zv_67 : (Jvm.Cond.selects "OrreryBoxModel" (⟨"OrreryBoxModel", "feedOne", "(I)V"⟩ : MethodName) ⟨"OrreryBoxModel", "feedOne", "(I)V"⟩) ∈ gw := gw_s 67 (by decide +kernel) rfl
theorem zs_MD_86 : zwV "OrreryBoxModel" 86 "OrreryBoxModel" zy_MD_feedOne zb_MD_feedOne 3 none := ⟨zw_1749, zw_1751, zv_67, zw_13, zc_MD_feedOne⟩
set_option maxHeartbeats 4000000 in
set_option maxRecDepth 100000 in
theorem c_MD_feed (l : Launch) (D : va_G) (tA : Nat → ClassId) (b : Nat) (f : zV) (n : Nat) (v0 v1 v2 v3 v4 : Int32) (t : Nat) (g : Nat → Int32) (w h ti th wk wa bg pk : Int32) (hT : t ≤ 65536) (hf : f 1185 = some (.inr (1, [.int w, .int h, .ref (b + 1186), .int (nI t), .ref (b + 1187), .ref (b + 1217), .ref (b + 1247), .ref (b + 1277), .ref (b + 1285), .ref (b + 1278), .int ti, .int th, .int wk, .int wa, .ref (b + 1281), .int bg, .ref (b + 1282), .ref (b + 1283), .ref (b + 1284), .int pk]))) (ht : f 1186 = some (.inl (tA 1, 65536, .inl g))) : zM l D tA b zy_MD_feed zb_MD_feed 6 (some .boolean) 1 22 0 0 [.ref (b + 1185), .int v0, .int v1, .int v2, .int v3, .int v4] f n (zE (some (.int (if nI t + 20 ≤ 65536 then 1 else 0))) (if nI t + 20 ≤ 65536 then zu (zu f 1186 (.inl (tA 1, 65536, .inl (zt20 g t v0 v1 v2 v3 v4)))) 1185 (.inr (1, [.int w, .int h, .ref (b + 1186), .int (nI (t + 20)), .ref (b + 1187), .ref (b + 1217), .ref (b + 1247), .ref (b + 1277), .ref (b + 1285), .ref (b + 1278), .int ti, .int 0, .int wk, .int wa, .ref (b + 1281), .int bg, .ref (b + 1282), .ref (b + 1283), .ref (b + 1284), .int pk])) else zu f 1185 (.inr (1, [.int w, .int h, .ref (b + 1186), .int (nI t), .ref (b + 1187), .ref (b + 1217), .ref (b + 1247), .ref (b + 1277), .ref (b + 1285), .ref (b + 1278), .int ti, .int 0, .int wk, .int wa, .ref (b + 1281), .int bg, .ref (b + 1282), .ref (b + 1283), .ref (b + 1284), .int pk]))) n) := by
  refine zM_of (own := "OrreryBoxModel") (plainFor_of_name (by decide)) rfl (Nat.le_of_ble_eq_true rfl) (fun p e s m below meth c F hr hin hH => ?_)
  refine zr_aload_n F zd_MD_feed_0 rfl ?_
  refine zr_iconstv (v := 0) F zd_MD_feed_1 (by decide) ?_
  refine zr_put F 1 11 zd_MD_feed_2 hf rfl (by decide) zw_1691 rfl rfl rfl rfl (by exact (Nat.le_of_ble_eq_true rfl)) ?_
  refine zr_norm (zu f 1185 (.inr (1, [.int w, .int h, .ref (b + 1186), .int (nI t), .ref (b + 1187), .ref (b + 1217), .ref (b + 1247), .ref (b + 1277), .ref (b + 1285), .ref (b + 1278), .int ti, .int 0, .int wk, .int wa, .ref (b + 1281), .int bg, .ref (b + 1282), .ref (b + 1283), .ref (b + 1284), .int pk]))) n rfl rfl ?_
  refine zr_aload_n F zd_MD_feed_5 rfl ?_
  refine zr_get F 1 3 zd_MD_feed_6 (zu_s _ _ _) rfl (by decide) zw_1683 rfl (by rfl) ?_
  refine zr_bipushv (v := 20) F zd_MD_feed_9 (by decide) ?_
  refine zr_iadd F zd_MD_feed_11 ?_
  refine zr_ldc F zd_MD_feed_12 zw_1308 ?_
  refine zr_icmp_le F 19 zd_MD_feed_14 (by decide) (fun hb => ?_) (fun hb => ?_)
  ·
    have ht20 : t + 20 ≤ 65536 := by rw [show (20 : Int32) = nI 20 from rfl, nI_add, show (65536 : Int32) = nI 65536 from rfl, nI_leI (by omega) (by decide)] at hb; exact hb
    refine zr_norm (zu (zu f 1186 (.inl (tA 1, 65536, .inl (g)))) 1185 (.inr (1, [.int w, .int h, .ref (b + 1186), .int (nI t), .ref (b + 1187), .ref (b + 1217), .ref (b + 1247), .ref (b + 1277), .ref (b + 1285), .ref (b + 1278), .int ti, .int 0, .int wk, .int wa, .ref (b + 1281), .int bg, .ref (b + 1282), .ref (b + 1283), .ref (b + 1284), .int pk]))) n (by rw [← zu_id ht]) rfl ?_
    refine zr_aload_n F zd_MD_feed_19 rfl ?_
    refine zr_iload_n F zd_MD_feed_20 rfl ?_
    refine zr_callV0 F (c_MD_feedOne l D tA b _ _ v0 (t) (g) w h ti 0 wk wa bg pk (by omega) (zu_s _ _ _) ((zu_n _ (by decide)).trans (zu_s _ _ _))) zd_MD_feed_21 (zu_s _ _ _) rfl zs_MD_86 rfl zq_MD_feedOne rfl rfl ⟨(Nat.le_of_ble_eq_true rfl), (Nat.le_of_ble_eq_true rfl)⟩ (Nat.le_of_ble_eq_true rfl) ⟨(Nat.le_of_ble_eq_true rfl), (Nat.le_of_ble_eq_true rfl)⟩ ?_
    refine zr_norm (zu (zu f 1186 (.inl (tA 1, 65536, .inl (zt4 (g) (t) v0)))) 1185 (.inr (1, [.int w, .int h, .ref (b + 1186), .int (nI (t + 4)), .ref (b + 1187), .ref (b + 1217), .ref (b + 1247), .ref (b + 1277), .ref (b + 1285), .ref (b + 1278), .int ti, .int 0, .int wk, .int wa, .ref (b + 1281), .int bg, .ref (b + 1282), .ref (b + 1283), .ref (b + 1284), .int pk]))) n (z2_2 (by decide)) rfl ?_
    refine zr_aload_n F zd_MD_feed_24 rfl ?_
    refine zr_iload_n F zd_MD_feed_25 rfl ?_
    refine zr_callV0 F (c_MD_feedOne l D tA b _ _ v1 (t + 4) (zt4 (g) (t) v0) w h ti 0 wk wa bg pk (by omega) (zu_s _ _ _) ((zu_n _ (by decide)).trans (zu_s _ _ _))) zd_MD_feed_26 (zu_s _ _ _) rfl zs_MD_86 rfl zq_MD_feedOne rfl rfl ⟨(Nat.le_of_ble_eq_true rfl), (Nat.le_of_ble_eq_true rfl)⟩ (Nat.le_of_ble_eq_true rfl) ⟨(Nat.le_of_ble_eq_true rfl), (Nat.le_of_ble_eq_true rfl)⟩ ?_
    refine zr_norm (zu (zu f 1186 (.inl (tA 1, 65536, .inl (zt4 (zt4 (g) (t) v0) (t + 4) v1)))) 1185 (.inr (1, [.int w, .int h, .ref (b + 1186), .int (nI (t + 8)), .ref (b + 1187), .ref (b + 1217), .ref (b + 1247), .ref (b + 1277), .ref (b + 1285), .ref (b + 1278), .int ti, .int 0, .int wk, .int wa, .ref (b + 1281), .int bg, .ref (b + 1282), .ref (b + 1283), .ref (b + 1284), .int pk]))) n (z2_2 (by decide)) rfl ?_
    refine zr_aload_n F zd_MD_feed_29 rfl ?_
    refine zr_iload_n F zd_MD_feed_30 rfl ?_
    refine zr_callV0 F (c_MD_feedOne l D tA b _ _ v2 (t + 8) (zt4 (zt4 (g) (t) v0) (t + 4) v1) w h ti 0 wk wa bg pk (by omega) (zu_s _ _ _) ((zu_n _ (by decide)).trans (zu_s _ _ _))) zd_MD_feed_31 (zu_s _ _ _) rfl zs_MD_86 rfl zq_MD_feedOne rfl rfl ⟨(Nat.le_of_ble_eq_true rfl), (Nat.le_of_ble_eq_true rfl)⟩ (Nat.le_of_ble_eq_true rfl) ⟨(Nat.le_of_ble_eq_true rfl), (Nat.le_of_ble_eq_true rfl)⟩ ?_
    refine zr_norm (zu (zu f 1186 (.inl (tA 1, 65536, .inl (zt4 (zt4 (zt4 (g) (t) v0) (t + 4) v1) (t + 8) v2)))) 1185 (.inr (1, [.int w, .int h, .ref (b + 1186), .int (nI (t + 12)), .ref (b + 1187), .ref (b + 1217), .ref (b + 1247), .ref (b + 1277), .ref (b + 1285), .ref (b + 1278), .int ti, .int 0, .int wk, .int wa, .ref (b + 1281), .int bg, .ref (b + 1282), .ref (b + 1283), .ref (b + 1284), .int pk]))) n (z2_2 (by decide)) rfl ?_
    refine zr_aload_n F zd_MD_feed_34 rfl ?_
    refine zr_iload F zd_MD_feed_35 rfl ?_
    refine zr_callV0 F (c_MD_feedOne l D tA b _ _ v3 (t + 12) (zt4 (zt4 (zt4 (g) (t) v0) (t + 4) v1) (t + 8) v2) w h ti 0 wk wa bg pk (by omega) (zu_s _ _ _) ((zu_n _ (by decide)).trans (zu_s _ _ _))) zd_MD_feed_37 (zu_s _ _ _) rfl zs_MD_86 rfl zq_MD_feedOne rfl rfl ⟨(Nat.le_of_ble_eq_true rfl), (Nat.le_of_ble_eq_true rfl)⟩ (Nat.le_of_ble_eq_true rfl) ⟨(Nat.le_of_ble_eq_true rfl), (Nat.le_of_ble_eq_true rfl)⟩ ?_
    refine zr_norm (zu (zu f 1186 (.inl (tA 1, 65536, .inl (zt4 (zt4 (zt4 (zt4 (g) (t) v0) (t + 4) v1) (t + 8) v2) (t + 12) v3)))) 1185 (.inr (1, [.int w, .int h, .ref (b + 1186), .int (nI (t + 16)), .ref (b + 1187), .ref (b + 1217), .ref (b + 1247), .ref (b + 1277), .ref (b + 1285), .ref (b + 1278), .int ti, .int 0, .int wk, .int wa, .ref (b + 1281), .int bg, .ref (b + 1282), .ref (b + 1283), .ref (b + 1284), .int pk]))) n (z2_2 (by decide)) rfl ?_
    refine zr_aload_n F zd_MD_feed_40 rfl ?_
    refine zr_iload F zd_MD_feed_41 rfl ?_
    refine zr_callV0 F (c_MD_feedOne l D tA b _ _ v4 (t + 16) (zt4 (zt4 (zt4 (zt4 (g) (t) v0) (t + 4) v1) (t + 8) v2) (t + 12) v3) w h ti 0 wk wa bg pk (by omega) (zu_s _ _ _) ((zu_n _ (by decide)).trans (zu_s _ _ _))) zd_MD_feed_43 (zu_s _ _ _) rfl zs_MD_86 rfl zq_MD_feedOne rfl rfl ⟨(Nat.le_of_ble_eq_true rfl), (Nat.le_of_ble_eq_true rfl)⟩ (Nat.le_of_ble_eq_true rfl) ⟨(Nat.le_of_ble_eq_true rfl), (Nat.le_of_ble_eq_true rfl)⟩ ?_
    refine zr_norm (zu (zu f 1186 (.inl (tA 1, 65536, .inl (zt4 (zt4 (zt4 (zt4 (zt4 (g) (t) v0) (t + 4) v1) (t + 8) v2) (t + 12) v3) (t + 16) v4)))) 1185 (.inr (1, [.int w, .int h, .ref (b + 1186), .int (nI (t + 20)), .ref (b + 1187), .ref (b + 1217), .ref (b + 1247), .ref (b + 1277), .ref (b + 1285), .ref (b + 1278), .int ti, .int 0, .int wk, .int wa, .ref (b + 1281), .int bg, .ref (b + 1282), .ref (b + 1283), .ref (b + 1284), .int pk]))) n (z2_2 (by decide)) rfl ?_
    refine zr_iconstv (v := 1) F zd_MD_feed_46 (by decide) ?_
    exact zr_zret F hr rfl zd_MD_feed_47 (Nat.le_of_ble_eq_true rfl) (Nat.le_of_ble_eq_true rfl) ⟨by rw [if_pos hb], by rw [if_pos hb]; rfl, rfl⟩
  ·
    refine zr_iconstv (v := 0) F zd_MD_feed_17 (by decide) ?_
    exact zr_zret F hr rfl zd_MD_feed_18 (Nat.le_of_ble_eq_true rfl) (Nat.le_of_ble_eq_true rfl) ⟨by rw [if_neg hb], by rw [if_neg hb], rfl⟩
