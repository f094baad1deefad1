theorem zx_in {i : Int32} {n : Nat} (h : ¬ (i < 0 ∨ n ≤ i.toNatClampNeg)) : vp_in i n := h
theorem zMT_eq {l : Launch} {D : va_G} {tA : Nat → ClassId} {b : Nat} {y : MethodName} {bytes : ByteArray} {maxL : Nat} {ret : Option FieldType} {d lo mc ms : Nat} {av : List Value} {f : zV} {n : Nat} {cls : String} {f1 f2 : zV} {n1 : Nat} (h : zMT l D tA b y bytes maxL ret d lo mc ms av f n cls f1 n1) (e : f1 = f2) : zMT l D tA b y bytes maxL ret d lo mc ms av f n cls f2 n1 := e ▸ h
section ZTO
variable {p : Program} {l : Launch} {e : Env} {R : Room} {s : State} {m : MethodId} {args : Array Value} {below : List Frame} {meth : Method} {c : Code} {Q : State → Prop}
variable {cc : ByteArray} {nL : Nat} {own : String} {D : va_G} {tA : Nat → ClassId} {b : Nat} {f : zV} {n cells slots pc : Nat} {L : List (Nat × Value)} {st : List Value}
theorem zr_toi {v v' : Int32} (h : v = v') (kk : Z p l e R s m args below meth c D b nL Q f n cells slots pc L (.int v' :: st)) : Z p l e R s m args below meth c D b nL Q f n cells slots pc L (.int v :: st) := h ▸ kk
theorem zr_tol {v v' : Int64} (h : v = v') (kk : Z p l e R s m args below meth c D b nL Q f n cells slots pc L (.long v' :: st)) : Z p l e R s m args below meth c D b nL Q f n cells slots pc L (.long v :: st) := h ▸ kk
theorem zr_acmp_eqN (F : zF p s m args meth c cc nL own D tA b) {x : Nat} {off : Int} (tgt : Nat) (hd : decode cc pc = .ok (.if_acmp .eq off, 3)) (ht : (pc : Int) + off = (tgt : Int)) (kk : Z p l e R s m args below meth c D b nL Q f n cells slots (pc + 3) L st) : Z p l e R s m args below meth c D b nL Q f n cells slots pc L (.null :: .ref x :: st) := fun H locs ls hH hS hL => lv_acmp_eq (rx := some x) (ry := none) (tgt := tgt) F.hx F.hb hd ht (fun q => by cases q) (fun _ => kk H locs ls hH hS hL)
end ZTO
theorem zu_mid4 {f : zV} {k a1 a2 a3 a4 : Nat} {x0 x1 x2 x3 x4 x5 : va_E} (h0 : k ≠ a1) (h1 : k ≠ a2) (h2 : k ≠ a3) (h3 : k ≠ a4) : zu (zu (zu (zu (zu (zu f k x0) a1 x1) a2 x2) a3 x3) a4 x4) k x5 = zu (zu (zu (zu (zu f k x5) a1 x1) a2 x2) a3 x3) a4 x4 := by
  rw [zu_swap (Ne.symm h3), zu_mid3 h0 h1 h2]
theorem zu_mid5 {f : zV} {k a1 a2 a3 a4 a5 : Nat} {x0 x1 x2 x3 x4 x5 x6 : va_E} (h0 : k ≠ a1) (h1 : k ≠ a2) (h2 : k ≠ a3) (h3 : k ≠ a4) (h4 : k ≠ a5) : zu (zu (zu (zu (zu (zu (zu f k x0) a1 x1) a2 x2) a3 x3) a4 x4) a5 x5) k x6 = zu (zu (zu (zu (zu (zu f k x6) a1 x1) a2 x2) a3 x3) a4 x4) a5 x5 := by
  rw [zu_swap (Ne.symm h4), zu_mid4 h0 h1 h2 h3]
theorem zu_mid6 {f : zV} {k a1 a2 a3 a4 a5 a6 : Nat} {x0 x1 x2 x3 x4 x5 x6 x7 : va_E} (h0 : k ≠ a1) (h1 : k ≠ a2) (h2 : k ≠ a3) (h3 : k ≠ a4) (h4 : k ≠ a5) (h5 : k ≠ a6) : zu (zu (zu (zu (zu (zu (zu (zu f k x0) a1 x1) a2 x2) a3 x3) a4 x4) a5 x5) a6 x6) k x7 = zu (zu (zu (zu (zu (zu (zu f k x7) a1 x1) a2 x2) a3 x3) a4 x4) a5 x5) a6 x6 := by
  rw [zu_swap (Ne.symm h5), zu_mid5 h0 h1 h2 h3 h4]
theorem zu_mid7 {f : zV} {k a1 a2 a3 a4 a5 a6 a7 : Nat} {x0 x1 x2 x3 x4 x5 x6 x7 x8 : va_E} (h0 : k ≠ a1) (h1 : k ≠ a2) (h2 : k ≠ a3) (h3 : k ≠ a4) (h4 : k ≠ a5) (h5 : k ≠ a6) (h6 : k ≠ a7) : zu (zu (zu (zu (zu (zu (zu (zu (zu f k x0) a1 x1) a2 x2) a3 x3) a4 x4) a5 x5) a6 x6) a7 x7) k x8 = zu (zu (zu (zu (zu (zu (zu (zu f k x8) a1 x1) a2 x2) a3 x3) a4 x4) a5 x5) a6 x6) a7 x7 := by
  rw [zu_swap (Ne.symm h6), zu_mid6 h0 h1 h2 h3 h4 h5]
theorem zu_mid8 {f : zV} {k a1 a2 a3 a4 a5 a6 a7 a8 : Nat} {x0 x1 x2 x3 x4 x5 x6 x7 x8 x9 : va_E} (h0 : k ≠ a1) (h1 : k ≠ a2) (h2 : k ≠ a3) (h3 : k ≠ a4) (h4 : k ≠ a5) (h5 : k ≠ a6) (h6 : k ≠ a7) (h7 : k ≠ a8) : zu (zu (zu (zu (zu (zu (zu (zu (zu (zu f k x0) a1 x1) a2 x2) a3 x3) a4 x4) a5 x5) a6 x6) a7 x7) a8 x8) k x9 = zu (zu (zu (zu (zu (zu (zu (zu (zu f k x9) a1 x1) a2 x2) a3 x3) a4 x4) a5 x5) a6 x6) a7 x7) a8 x8 := by
  rw [zu_swap (Ne.symm h7), zu_mid7 h0 h1 h2 h3 h4 h5 h6]
theorem zx_nn {v : Int32} (h : ¬ v < 0) : ¬ ¬ 0 ≤ v := fun q => q (Int32.not_lt.mp h)
abbrev zb_XReader_refuse : ByteArray := prog_8_method_21_code
def zy_XReader_refuse : MethodName := ⟨"OrreryBox$Reader", "refuse", "(II)V"⟩
theorem zc_XReader_refuse : Cond.code zy_XReader_refuse zb_XReader_refuse 3 none ∈ gw := gw_t 1097 (by decide +kernel) rfl
theorem zq_XReader_refuse : zy_XReader_refuse.cls ≠ "java/lang/invoke/MethodHandle" ∧ zy_XReader_refuse.cls ≠ "java/lang/invoke/VarHandle" ∧ (parseMethodDescriptor zy_XReader_refuse.desc).map (fun d => d.parameters.length) = some 2 := by decide +kernel
theorem zd_XReader_refuse_0 : decode zb_XReader_refuse 0 = .ok (.aload_n 0, 1) := by decide +kernel
theorem zd_XReader_refuse_1 : decode zb_XReader_refuse 1 = .ok (.iload_n 1, 1) := by decide +kernel
theorem zd_XReader_refuse_2 : decode zb_XReader_refuse 2 = .ok (.putfield 30, 3) := by decide +kernel
theorem zd_XReader_refuse_5 : decode zb_XReader_refuse 5 = .ok (.aload_n 0, 1) := by decide +kernel
theorem zd_XReader_refuse_6 : decode zb_XReader_refuse 6 = .ok (.iload_n 2, 1) := by decide +kernel
theorem zd_XReader_refuse_7 : decode zb_XReader_refuse 7 = .ok (.putfield 33, 3) := by decide +kernel
theorem zd_XReader_refuse_10 : decode zb_XReader_refuse 10 = .ok (.new 298, 3) := by decide +kernel
theorem zd_XReader_refuse_13 : decode zb_XReader_refuse 13 = .ok (.dup, 1) := by decide +kernel
theorem zd_XReader_refuse_14 : decode zb_XReader_refuse 14 = .ok (.invokespecial 300, 3) := by decide +kernel
theorem zd_XReader_refuse_17 : decode zb_XReader_refuse 17 = .ok (.athrow, 1) := by decide +kernel
theorem zw_46 : (Jvm.Cond.fieldLink "OrreryBox$Reader" (30 : Nat) "OrreryBox$Reader" "wrong" "I") ∈ gw := gw_t 46 (by decide +kernel) rfl
theorem zw_48 : (Jvm.Cond.fieldLink "OrreryBox$Reader" (33 : Nat) "OrreryBox$Reader" "wrongAt" "I") ∈ gw := gw_t 48 (by decide +kernel) rfl
theorem zw_1098 : (Jvm.Cond.classLink "OrreryBox$Reader" (298 : Nat) "java/lang/IllegalArgumentException") ∈ gw := gw_t 1098 (by decide +kernel) rfl
theorem zw_1099 : (Jvm.Cond.instantiable "java/lang/IllegalArgumentException" (6 : Nat)) ∈ gw := gw_t 1099 (by decide +kernel) rfl
theorem zw_21 : (Jvm.Cond.initialized "java/lang/IllegalArgumentException") ∈ gw := gw_t 21 (by decide +kernel) rfl
set_option maxHeartbeats 4000000 in
set_option maxRecDepth 100000 in
theorem e_XReader_refuse (l : Launch) (D : va_G) (tA : Nat → ClassId) (b : Nat) (f : zV) (n : Nat) (k : Int32) (pl : Int32) (wr : Int32) (wa : Int32) (tx : Value) (na : Int32) (rs : Value) (hf : f 3 = some (.inr (7, [.int wr, .int wa, .ref (b + 4), tx, .int 0, .int 0, .int na, rs])))  (hl : l.stackTraces = false) : zMT l D tA b zy_XReader_refuse zb_XReader_refuse 3 none 6 90 1 6 [.ref (b + 3), .int k, .int pl] f n "java/lang/IllegalArgumentException" (zu (f) 3 (.inr (7, [.int k, .int pl, .ref (b + 4), tx, .int 0, .int 0, .int na, rs]))) (n + 1) := by
  refine zMT_of (own := "OrreryBox$Reader") (plainFor_of_name (by decide)) rfl (Nat.le_of_ble_eq_true rfl) (fun p e s m below meth c F hno hH => ?_)
  refine zr_aload_n F zd_XReader_refuse_0 rfl ?_
  refine zr_iload_n F zd_XReader_refuse_1 rfl ?_
  refine zr_put F 7 0 zd_XReader_refuse_2 hf rfl (by decide) zw_46 rfl rfl rfl rfl (by exact (Nat.le_of_ble_eq_true rfl)) ?_
  refine zr_norm (zu (f) 3 (.inr (7, [.int k, .int wa, .ref (b + 4), tx, .int 0, .int 0, .int na, rs]))) _ (rfl) rfl ?_
  refine zr_aload_n F zd_XReader_refuse_5 rfl ?_
  refine zr_iload_n F zd_XReader_refuse_6 rfl ?_
  refine zr_put F 7 1 zd_XReader_refuse_7 (zu_s _ _ _) rfl (by decide) zw_48 rfl rfl rfl rfl (by exact (Nat.le_of_ble_eq_true rfl)) ?_
  refine zr_norm (zu (f) 3 (.inr (7, [.int k, .int pl, .ref (b + 4), tx, .int 0, .int 0, .int na, rs]))) _ (zu_zu _ _ _ _) rfl ?_
  exact zr_throwNew (names := ["java/lang/RuntimeException", "java/lang/Exception"]) F hl hno zd_XReader_refuse_10 zd_XReader_refuse_13 zd_XReader_refuse_14 zd_XReader_refuse_17 (by decide) (by decide) (fun U hG hts => zat_IAE U hG hts) zw_1098 zw_1099 zw_21 (Nat.le_of_ble_eq_true rfl) (Nat.le_of_ble_eq_true rfl) (Nat.le_of_ble_eq_true rfl) (Nat.le_of_ble_eq_true rfl) (Nat.le_of_ble_eq_true rfl) (Nat.le_of_ble_eq_true rfl)
set_option maxHeartbeats 4000000 in
set_option maxRecDepth 100000 in
theorem e_XReader_sees (l : Launch) (D : va_G) (tA : Nat → ClassId) (b : Nat) (f : zV) (n : Nat) (ch : Int32) (wr : Int32) (wa : Int32) (tx : Value) (na : Int32) (rs : Value) (hf : f 3 = some (.inr (7, [.int wr, .int wa, .ref (b + 4), tx, .int 0, .int 0, .int na, rs])))  : zM l D tA b zy_XReader_sees zb_XReader_sees 2 (some .boolean) 0 0 0 0 [.ref (b + 3), .int ch] f n (zE (some (.int 0)) f n) := by
  refine zM_of (own := "OrreryBox$Reader") (plainFor_of_name (by decide)) rfl (Nat.le_of_ble_eq_true rfl) (fun p e s m below meth c F hr hin hH => ?_)
  refine zr_aload_n F zd_XReader_sees_0 rfl ?_
  refine zr_get F 7 5 zd_XReader_sees_1 hf rfl (by decide) zw_53 rfl (by rfl) ?_
  refine zr_aload_n F zd_XReader_sees_4 rfl ?_
  refine zr_get F 7 4 zd_XReader_sees_5 hf rfl (by decide) zw_52 rfl (by rfl) ?_
  refine zr_icmp_ge F 28 zd_XReader_sees_8 (by decide) (fun _ => ?_) (fun h => absurd h (by decide))
  refine zr_iconstv (v := 0) F zd_XReader_sees_28 (by decide) ?_
  exact zr_zret F hr rfl zd_XReader_sees_29 (Nat.le_of_ble_eq_true rfl) (Nat.le_of_ble_eq_true rfl) ⟨rfl, rfl, rfl⟩
abbrev zb_XReader_step : ByteArray := prog_8_method_20_code
def zy_XReader_step : MethodName := ⟨"OrreryBox$Reader", "step", "(I)V"⟩
theorem zc_XReader_step : Cond.code zy_XReader_step zb_XReader_step 2 none ∈ gw := gw_t 1085 (by decide +kernel) rfl
theorem zq_XReader_step : zy_XReader_step.cls ≠ "java/lang/invoke/MethodHandle" ∧ zy_XReader_step.cls ≠ "java/lang/invoke/VarHandle" ∧ (parseMethodDescriptor zy_XReader_step.desc).map (fun d => d.parameters.length) = some 1 := by decide +kernel
theorem zd_XReader_step_0 : decode zb_XReader_step 0 = .ok (.aload_n 0, 1) := by decide +kernel
theorem zd_XReader_step_1 : decode zb_XReader_step 1 = .ok (.dup, 1) := by decide +kernel
theorem zd_XReader_step_2 : decode zb_XReader_step 2 = .ok (.getfield 27, 3) := by decide +kernel
theorem zd_XReader_step_5 : decode zb_XReader_step 5 = .ok (.iload_n 1, 1) := by decide +kernel
theorem zd_XReader_step_6 : decode zb_XReader_step 6 = .ok (.iadd, 1) := by decide +kernel
theorem zd_XReader_step_7 : decode zb_XReader_step 7 = .ok (.putfield 27, 3) := by decide +kernel
theorem zd_XReader_step_10 : decode zb_XReader_step 10 = .ok (.aload_n 0, 1) := by decide +kernel
theorem zd_XReader_step_11 : decode zb_XReader_step 11 = .ok (.getfield 27, 3) := by decide +kernel
theorem zd_XReader_step_14 : decode zb_XReader_step 14 = .ok (.aload_n 0, 1) := by decide +kernel
theorem zd_XReader_step_15 : decode zb_XReader_step 15 = .ok (.getfield 19, 3) := by decide +kernel
theorem zd_XReader_step_18 : decode zb_XReader_step 18 = .ok (.if_icmp .ge 72, 3) := by decide +kernel
theorem zd_XReader_step_21 : decode zb_XReader_step 21 = .ok (.aload_n 0, 1) := by decide +kernel
theorem zd_XReader_step_22 : decode zb_XReader_step 22 = .ok (.getfield 15, 3) := by decide +kernel
theorem zd_XReader_step_25 : decode zb_XReader_step 25 = .ok (.aload_n 0, 1) := by decide +kernel
theorem zd_XReader_step_26 : decode zb_XReader_step 26 = .ok (.getfield 27, 3) := by decide +kernel
theorem zd_XReader_step_29 : decode zb_XReader_step 29 = .ok (.baload, 1) := by decide +kernel
theorem zd_XReader_step_30 : decode zb_XReader_step 30 = .ok (.bipush 32, 2) := by decide +kernel
theorem zd_XReader_step_32 : decode zb_XReader_step 32 = .ok (.if_icmp .eq 45, 3) := by decide +kernel
theorem zd_XReader_step_35 : decode zb_XReader_step 35 = .ok (.aload_n 0, 1) := by decide +kernel
theorem zd_XReader_step_36 : decode zb_XReader_step 36 = .ok (.getfield 15, 3) := by decide +kernel
theorem zd_XReader_step_39 : decode zb_XReader_step 39 = .ok (.aload_n 0, 1) := by decide +kernel
theorem zd_XReader_step_40 : decode zb_XReader_step 40 = .ok (.getfield 27, 3) := by decide +kernel
theorem zd_XReader_step_43 : decode zb_XReader_step 43 = .ok (.baload, 1) := by decide +kernel
theorem zd_XReader_step_44 : decode zb_XReader_step 44 = .ok (.bipush 10, 2) := by decide +kernel
theorem zd_XReader_step_46 : decode zb_XReader_step 46 = .ok (.if_icmp .eq 31, 3) := by decide +kernel
theorem zd_XReader_step_49 : decode zb_XReader_step 49 = .ok (.aload_n 0, 1) := by decide +kernel
theorem zd_XReader_step_50 : decode zb_XReader_step 50 = .ok (.getfield 15, 3) := by decide +kernel
theorem zd_XReader_step_53 : decode zb_XReader_step 53 = .ok (.aload_n 0, 1) := by decide +kernel
theorem zd_XReader_step_54 : decode zb_XReader_step 54 = .ok (.getfield 27, 3) := by decide +kernel
theorem zd_XReader_step_57 : decode zb_XReader_step 57 = .ok (.baload, 1) := by decide +kernel
theorem zd_XReader_step_58 : decode zb_XReader_step 58 = .ok (.bipush 13, 2) := by decide +kernel
theorem zd_XReader_step_60 : decode zb_XReader_step 60 = .ok (.if_icmp .eq 17, 3) := by decide +kernel
theorem zd_XReader_step_63 : decode zb_XReader_step 63 = .ok (.aload_n 0, 1) := by decide +kernel
theorem zd_XReader_step_64 : decode zb_XReader_step 64 = .ok (.getfield 15, 3) := by decide +kernel
theorem zd_XReader_step_67 : decode zb_XReader_step 67 = .ok (.aload_n 0, 1) := by decide +kernel
theorem zd_XReader_step_68 : decode zb_XReader_step 68 = .ok (.getfield 27, 3) := by decide +kernel
theorem zd_XReader_step_71 : decode zb_XReader_step 71 = .ok (.baload, 1) := by decide +kernel
theorem zd_XReader_step_72 : decode zb_XReader_step 72 = .ok (.bipush 9, 2) := by decide +kernel
theorem zd_XReader_step_74 : decode zb_XReader_step 74 = .ok (.if_icmp .ne 16, 3) := by decide +kernel
theorem zd_XReader_step_77 : decode zb_XReader_step 77 = .ok (.aload_n 0, 1) := by decide +kernel
theorem zd_XReader_step_78 : decode zb_XReader_step 78 = .ok (.dup, 1) := by decide +kernel
theorem zd_XReader_step_79 : decode zb_XReader_step 79 = .ok (.getfield 27, 3) := by decide +kernel
theorem zd_XReader_step_82 : decode zb_XReader_step 82 = .ok (.iconst 1, 1) := by decide +kernel
theorem zd_XReader_step_83 : decode zb_XReader_step 83 = .ok (.iadd, 1) := by decide +kernel
theorem zd_XReader_step_84 : decode zb_XReader_step 84 = .ok (.putfield 27, 3) := by decide +kernel
theorem zd_XReader_step_87 : decode zb_XReader_step 87 = .ok (.goto (-77), 3) := by decide +kernel
theorem zd_XReader_step_90 : decode zb_XReader_step 90 = .ok (.return_, 1) := by decide +kernel
set_option maxHeartbeats 4000000 in
set_option maxRecDepth 100000 in
theorem e_XReader_step (l : Launch) (D : va_G) (tA : Nat → ClassId) (b : Nat) (f : zV) (n : Nat) (wr : Int32) (wa : Int32) (tx : Value) (na : Int32) (rs : Value) (hf : f 3 = some (.inr (7, [.int wr, .int wa, .ref (b + 4), tx, .int 0, .int 0, .int na, rs])))  : zM l D tA b zy_XReader_step zb_XReader_step 2 none 0 0 0 0 [.ref (b + 3), .int 0] f n (zE none (zu (f) 3 (.inr (7, [.int wr, .int wa, .ref (b + 4), tx, .int 0, .int 0, .int na, rs]))) n) := by
  refine zM_of (own := "OrreryBox$Reader") (plainFor_of_name (by decide)) rfl (Nat.le_of_ble_eq_true rfl) (fun p e s m below meth c F hr hin hH => ?_)
  refine zr_aload_n F zd_XReader_step_0 rfl ?_
  refine zr_dup F zd_XReader_step_1 rfl ?_
  refine zr_get F 7 5 zd_XReader_step_2 hf rfl (by decide) zw_53 rfl (by rfl) ?_
  refine zr_iload_n F zd_XReader_step_5 rfl ?_
  refine zr_iadd F zd_XReader_step_6 ?_
  refine zr_toi (v' := 0) (by decide) ?_
  refine zr_put F 7 5 zd_XReader_step_7 hf rfl (by decide) zw_53 rfl rfl rfl rfl (by exact (Nat.le_of_ble_eq_true rfl)) ?_
  refine zr_norm (zu (f) 3 (.inr (7, [.int wr, .int wa, .ref (b + 4), tx, .int 0, .int 0, .int na, rs]))) _ (rfl) rfl ?_
  refine zr_aload_n F zd_XReader_step_10 rfl ?_
  refine zr_get F 7 5 zd_XReader_step_11 (zu_s _ _ _) rfl (by decide) zw_53 rfl (by rfl) ?_
  refine zr_aload_n F zd_XReader_step_14 rfl ?_
  refine zr_get F 7 4 zd_XReader_step_15 (zu_s _ _ _) rfl (by decide) zw_52 rfl (by rfl) ?_
  refine zr_icmp_ge F 90 zd_XReader_step_18 (by decide) (fun _ => ?_) (fun h => absurd h (by decide))
  exact zr_vret F hr zd_XReader_step_90 (Nat.le_of_ble_eq_true rfl) (Nat.le_of_ble_eq_true rfl) ⟨rfl, rfl, rfl⟩
abbrev zb_XReader_need : ByteArray := prog_8_method_19_code
def zy_XReader_need : MethodName := ⟨"OrreryBox$Reader", "need", "(C)V"⟩
theorem zc_XReader_need : Cond.code zy_XReader_need zb_XReader_need 2 none ∈ gw := gw_t 1089 (by decide +kernel) rfl
theorem zq_XReader_need : zy_XReader_need.cls ≠ "java/lang/invoke/MethodHandle" ∧ zy_XReader_need.cls ≠ "java/lang/invoke/VarHandle" ∧ (parseMethodDescriptor zy_XReader_need.desc).map (fun d => d.parameters.length) = some 1 := by decide +kernel
theorem zd_XReader_need_0 : decode zb_XReader_need 0 = .ok (.aload_n 0, 1) := by decide +kernel
theorem zd_XReader_need_1 : decode zb_XReader_need 1 = .ok (.iload_n 1, 1) := by decide +kernel
theorem zd_XReader_need_2 : decode zb_XReader_need 2 = .ok (.invokevirtual 49, 3) := by decide +kernel
theorem zd_XReader_need_5 : decode zb_XReader_need 5 = .ok (.ifCond .ne 12, 3) := by decide +kernel
theorem zd_XReader_need_8 : decode zb_XReader_need 8 = .ok (.aload_n 0, 1) := by decide +kernel
theorem zd_XReader_need_9 : decode zb_XReader_need 9 = .ok (.iconst 1, 1) := by decide +kernel
theorem zd_XReader_need_10 : decode zb_XReader_need 10 = .ok (.aload_n 0, 1) := by decide +kernel
theorem zd_XReader_need_11 : decode zb_XReader_need 11 = .ok (.getfield 27, 3) := by decide +kernel
theorem zd_XReader_need_14 : decode zb_XReader_need 14 = .ok (.invokevirtual 77, 3) := by decide +kernel
theorem zd_XReader_need_17 : decode zb_XReader_need 17 = .ok (.aload_n 0, 1) := by decide +kernel
theorem zd_XReader_need_18 : decode zb_XReader_need 18 = .ok (.iconst 1, 1) := by decide +kernel
theorem zd_XReader_need_19 : decode zb_XReader_need 19 = .ok (.invokevirtual 41, 3) := by decide +kernel
theorem zd_XReader_need_22 : decode zb_XReader_need 22 = .ok (.return_, 1) := by decide +kernel
theorem zw_1090 : (Jvm.Cond.methodLink "OrreryBox$Reader" (49 : Nat) ({ cls := "OrreryBox$Reader", name := "sees", desc := "(C)Z" } : Jvm.MethodName)) ∈ gw := gw_t 1090 (by decide +kernel) rfl
theorem zw_1092 : (Jvm.Cond.instanceMethod ({ cls := "OrreryBox$Reader", name := "sees", desc := "(C)Z" } : Jvm.MethodName)) ∈ gw := gw_t 1092 (by decide +kernel) rfl
theorem zv_49 : (Jvm.Cond.selects "OrreryBox$Reader" (⟨"OrreryBox$Reader", "sees", "(C)Z"⟩ : MethodName) ⟨"OrreryBox$Reader", "sees", "(C)Z"⟩) ∈ gw := gw_s 49 (by decide +kernel) rfl
theorem zs_XReader_49 : zwV "OrreryBox$Reader" 49 "OrreryBox$Reader" zy_XReader_sees zb_XReader_sees 2 (some .boolean) := ⟨zw_1090, zw_1092, zv_49, zw_2, zc_XReader_sees⟩
theorem zw_1094 : (Jvm.Cond.methodLink "OrreryBox$Reader" (77 : Nat) ({ cls := "OrreryBox$Reader", name := "refuse", desc := "(II)V" } : Jvm.MethodName)) ∈ gw := gw_t 1094 (by decide +kernel) rfl
theorem zw_1096 : (Jvm.Cond.instanceMethod ({ cls := "OrreryBox$Reader", name := "refuse", desc := "(II)V" } : Jvm.MethodName)) ∈ gw := gw_t 1096 (by decide +kernel) rfl
theorem zv_50 : (Jvm.Cond.selects "OrreryBox$Reader" (⟨"OrreryBox$Reader", "refuse", "(II)V"⟩ : MethodName) ⟨"OrreryBox$Reader", "refuse", "(II)V"⟩) ∈ gw := gw_s 50 (by decide +kernel) rfl
theorem zs_XReader_77 : zwV "OrreryBox$Reader" 77 "OrreryBox$Reader" zy_XReader_refuse zb_XReader_refuse 3 none := ⟨zw_1094, zw_1096, zv_50, zw_2, zc_XReader_refuse⟩
set_option maxHeartbeats 4000000 in
set_option maxRecDepth 100000 in
theorem e_XReader_need (l : Launch) (D : va_G) (tA : Nat → ClassId) (b : Nat) (f : zV) (n : Nat) (ch : Int32) (wr : Int32) (wa : Int32) (tx : Value) (na : Int32) (rs : Value) (hf : f 3 = some (.inr (7, [.int wr, .int wa, .ref (b + 4), tx, .int 0, .int 0, .int na, rs])))  (hl : l.stackTraces = false) : zMT l D tA b zy_XReader_need zb_XReader_need 2 none 7 112 1 6 [.ref (b + 3), .int ch] f n "java/lang/IllegalArgumentException" (zu (f) 3 (.inr (7, [.int 1, .int 0, .ref (b + 4), tx, .int 0, .int 0, .int na, rs]))) (n + 1) := by
  refine zMT_of (own := "OrreryBox$Reader") (plainFor_of_name (by decide)) rfl (Nat.le_of_ble_eq_true rfl) (fun p e s m below meth c F hno hH => ?_)
  refine zr_aload_n F zd_XReader_need_0 rfl ?_
  refine zr_iload_n F zd_XReader_need_1 rfl ?_
  refine zr_callV1 F (e_XReader_sees l D tA b _ _ ch wr wa tx na rs hf ) zd_XReader_need_2 hf rfl zs_XReader_49 rfl zq_XReader_sees rfl rfl ⟨(Nat.le_of_ble_eq_true rfl), (Nat.le_of_ble_eq_true rfl)⟩ (Nat.le_of_ble_eq_true rfl) ⟨(Nat.le_of_ble_eq_true rfl), (Nat.le_of_ble_eq_true rfl)⟩ ?_
  refine zr_if_ne F 17 zd_XReader_need_5 (by decide) (fun h => absurd h (by decide)) (fun _ => ?_)
  refine zr_aload_n F zd_XReader_need_8 rfl ?_
  refine zr_iconstv (v := 1) F zd_XReader_need_9 (by decide) ?_
  refine zr_aload_n F zd_XReader_need_10 rfl ?_
  refine zr_get F 7 5 zd_XReader_need_11 hf rfl (by decide) zw_53 rfl (by rfl) ?_
  exact zr_thrV F hno (zMT_eq (e_XReader_refuse l D tA b _ _ 1 0 wr wa tx na rs hf  hl) (f2 := zu (f) 3 (.inr (7, [.int 1, .int 0, .ref (b + 4), tx, .int 0, .int 0, .int na, rs]))) (rfl)) zd_XReader_need_14 hf rfl zs_XReader_77 rfl zq_XReader_refuse rfl rfl ⟨(Nat.le_of_ble_eq_true rfl), (Nat.le_of_ble_eq_true rfl)⟩ (Nat.le_of_ble_eq_true rfl) ⟨(Nat.le_of_ble_eq_true rfl), (Nat.le_of_ble_eq_true rfl)⟩ ⟨(Nat.le_of_ble_eq_true rfl), (Nat.le_of_ble_eq_true rfl)⟩
abbrev zb_XReader_read : ByteArray := prog_8_method_2_code
def zy_XReader_read : MethodName := ⟨"OrreryBox$Reader", "read", "([BILOrreryBox$Scene;)V"⟩
theorem zc_XReader_read : Cond.code zy_XReader_read zb_XReader_read 6 none ∈ gw := gw_t 1080 (by decide +kernel) rfl
theorem zq_XReader_read : zy_XReader_read.cls ≠ "java/lang/invoke/MethodHandle" ∧ zy_XReader_read.cls ≠ "java/lang/invoke/VarHandle" ∧ (parseMethodDescriptor zy_XReader_read.desc).map (fun d => d.parameters.length) = some 3 := by decide +kernel
theorem zd_XReader_read_0 : decode zb_XReader_read 0 = .ok (.aload_n 0, 1) := by decide +kernel
theorem zd_XReader_read_1 : decode zb_XReader_read 1 = .ok (.aload_n 1, 1) := by decide +kernel
theorem zd_XReader_read_2 : decode zb_XReader_read 2 = .ok (.putfield 15, 3) := by decide +kernel
theorem zd_XReader_read_5 : decode zb_XReader_read 5 = .ok (.aload_n 0, 1) := by decide +kernel
theorem zd_XReader_read_6 : decode zb_XReader_read 6 = .ok (.iload_n 2, 1) := by decide +kernel
theorem zd_XReader_read_7 : decode zb_XReader_read 7 = .ok (.putfield 19, 3) := by decide +kernel
theorem zd_XReader_read_10 : decode zb_XReader_read 10 = .ok (.aload_n 0, 1) := by decide +kernel
theorem zd_XReader_read_11 : decode zb_XReader_read 11 = .ok (.aload_n 3, 1) := by decide +kernel
theorem zd_XReader_read_12 : decode zb_XReader_read 12 = .ok (.putfield 23, 3) := by decide +kernel
theorem zd_XReader_read_15 : decode zb_XReader_read 15 = .ok (.aload_n 0, 1) := by decide +kernel
theorem zd_XReader_read_16 : decode zb_XReader_read 16 = .ok (.iconst 0, 1) := by decide +kernel
theorem zd_XReader_read_17 : decode zb_XReader_read 17 = .ok (.putfield 27, 3) := by decide +kernel
theorem zd_XReader_read_20 : decode zb_XReader_read 20 = .ok (.aload_n 0, 1) := by decide +kernel
theorem zd_XReader_read_21 : decode zb_XReader_read 21 = .ok (.iconst 0, 1) := by decide +kernel
theorem zd_XReader_read_22 : decode zb_XReader_read 22 = .ok (.putfield 30, 3) := by decide +kernel
theorem zd_XReader_read_25 : decode zb_XReader_read 25 = .ok (.aload_n 0, 1) := by decide +kernel
theorem zd_XReader_read_26 : decode zb_XReader_read 26 = .ok (.iconst 0, 1) := by decide +kernel
theorem zd_XReader_read_27 : decode zb_XReader_read 27 = .ok (.putfield 33, 3) := by decide +kernel
theorem zd_XReader_read_30 : decode zb_XReader_read 30 = .ok (.aload_n 0, 1) := by decide +kernel
theorem zd_XReader_read_31 : decode zb_XReader_read 31 = .ok (.getfield 23, 3) := by decide +kernel
theorem zd_XReader_read_34 : decode zb_XReader_read 34 = .ok (.invokevirtual 36, 3) := by decide +kernel
theorem zd_XReader_read_37 : decode zb_XReader_read 37 = .ok (.aload_n 0, 1) := by decide +kernel
theorem zd_XReader_read_38 : decode zb_XReader_read 38 = .ok (.iconst 0, 1) := by decide +kernel
theorem zd_XReader_read_39 : decode zb_XReader_read 39 = .ok (.invokevirtual 41, 3) := by decide +kernel
theorem zd_XReader_read_42 : decode zb_XReader_read 42 = .ok (.aload_n 0, 1) := by decide +kernel
theorem zd_XReader_read_43 : decode zb_XReader_read 43 = .ok (.bipush 123, 2) := by decide +kernel
theorem zd_XReader_read_45 : decode zb_XReader_read 45 = .ok (.invokevirtual 45, 3) := by decide +kernel
theorem zd_XReader_read_48 : decode zb_XReader_read 48 = .ok (.aload_n 0, 1) := by decide +kernel
theorem zd_XReader_read_49 : decode zb_XReader_read 49 = .ok (.bipush 125, 2) := by decide +kernel
theorem zd_XReader_read_51 : decode zb_XReader_read 51 = .ok (.invokevirtual 49, 3) := by decide +kernel
theorem zd_XReader_read_54 : decode zb_XReader_read 54 = .ok (.ifCond .ne 7, 3) := by decide +kernel
theorem zd_XReader_read_57 : decode zb_XReader_read 57 = .ok (.iconst 1, 1) := by decide +kernel
theorem zd_XReader_read_58 : decode zb_XReader_read 58 = .ok (.goto 4, 3) := by decide +kernel
theorem zd_XReader_read_61 : decode zb_XReader_read 61 = .ok (.iconst 0, 1) := by decide +kernel
theorem zd_XReader_read_62 : decode zb_XReader_read 62 = .ok (.istore 4, 2) := by decide +kernel
theorem zd_XReader_read_64 : decode zb_XReader_read 64 = .ok (.iconst 0, 1) := by decide +kernel
theorem zd_XReader_read_65 : decode zb_XReader_read 65 = .ok (.istore 5, 2) := by decide +kernel
theorem zd_XReader_read_67 : decode zb_XReader_read 67 = .ok (.iload 5, 2) := by decide +kernel
theorem zd_XReader_read_69 : decode zb_XReader_read 69 = .ok (.bipush 6, 2) := by decide +kernel
theorem zd_XReader_read_71 : decode zb_XReader_read 71 = .ok (.if_icmp .gt 94, 3) := by decide +kernel
theorem zd_XReader_read_74 : decode zb_XReader_read 74 = .ok (.iload 4, 2) := by decide +kernel
theorem zd_XReader_read_76 : decode zb_XReader_read 76 = .ok (.ifCond .eq 89, 3) := by decide +kernel
theorem zd_XReader_read_79 : decode zb_XReader_read 79 = .ok (.aload_n 0, 1) := by decide +kernel
theorem zd_XReader_read_80 : decode zb_XReader_read 80 = .ok (.iload 5, 2) := by decide +kernel
theorem zd_XReader_read_82 : decode zb_XReader_read 82 = .ok (.invokestatic 53, 3) := by decide +kernel
theorem zd_XReader_read_85 : decode zb_XReader_read 85 = .ok (.invokevirtual 57, 3) := by decide +kernel
theorem zd_XReader_read_88 : decode zb_XReader_read 88 = .ok (.ifCond .ne 6, 3) := by decide +kernel
theorem zd_XReader_read_91 : decode zb_XReader_read 91 = .ok (.goto 68, 3) := by decide +kernel
theorem zd_XReader_read_94 : decode zb_XReader_read 94 = .ok (.aload_n 0, 1) := by decide +kernel
theorem zd_XReader_read_95 : decode zb_XReader_read 95 = .ok (.iload 5, 2) := by decide +kernel
theorem zd_XReader_read_97 : decode zb_XReader_read 97 = .ok (.invokestatic 53, 3) := by decide +kernel
theorem zd_XReader_read_100 : decode zb_XReader_read 100 = .ok (.invokevirtual 61, 3) := by decide +kernel
theorem zd_XReader_read_103 : decode zb_XReader_read 103 = .ok (.iload 5, 2) := by decide +kernel
theorem zd_XReader_read_105 : decode zb_XReader_read 105 = .ok (.iconst 5, 1) := by decide +kernel
theorem zd_XReader_read_106 : decode zb_XReader_read 106 = .ok (.if_icmp .ne 10, 3) := by decide +kernel
theorem zd_XReader_read_109 : decode zb_XReader_read 109 = .ok (.aload_n 0, 1) := by decide +kernel
theorem zd_XReader_read_110 : decode zb_XReader_read 110 = .ok (.invokevirtual 65, 3) := by decide +kernel
theorem zd_XReader_read_113 : decode zb_XReader_read 113 = .ok (.goto 23, 3) := by decide +kernel
theorem zd_XReader_read_116 : decode zb_XReader_read 116 = .ok (.iload 5, 2) := by decide +kernel
theorem zd_XReader_read_118 : decode zb_XReader_read 118 = .ok (.bipush 6, 2) := by decide +kernel
theorem zd_XReader_read_120 : decode zb_XReader_read 120 = .ok (.if_icmp .ne 10, 3) := by decide +kernel
theorem zd_XReader_read_123 : decode zb_XReader_read 123 = .ok (.aload_n 0, 1) := by decide +kernel
theorem zd_XReader_read_124 : decode zb_XReader_read 124 = .ok (.invokevirtual 68, 3) := by decide +kernel
theorem zd_XReader_read_127 : decode zb_XReader_read 127 = .ok (.goto 9, 3) := by decide +kernel
theorem zd_XReader_read_130 : decode zb_XReader_read 130 = .ok (.aload_n 0, 1) := by decide +kernel
theorem zd_XReader_read_131 : decode zb_XReader_read 131 = .ok (.iload 5, 2) := by decide +kernel
theorem zd_XReader_read_133 : decode zb_XReader_read 133 = .ok (.invokevirtual 71, 3) := by decide +kernel
theorem zd_XReader_read_136 : decode zb_XReader_read 136 = .ok (.iload 5, 2) := by decide +kernel
theorem zd_XReader_read_138 : decode zb_XReader_read 138 = .ok (.bipush 6, 2) := by decide +kernel
theorem zd_XReader_read_140 : decode zb_XReader_read 140 = .ok (.if_icmp .ge 16, 3) := by decide +kernel
theorem zd_XReader_read_143 : decode zb_XReader_read 143 = .ok (.aload_n 0, 1) := by decide +kernel
theorem zd_XReader_read_144 : decode zb_XReader_read 144 = .ok (.bipush 44, 2) := by decide +kernel
theorem zd_XReader_read_146 : decode zb_XReader_read 146 = .ok (.invokevirtual 74, 3) := by decide +kernel
theorem zd_XReader_read_149 : decode zb_XReader_read 149 = .ok (.ifCond .eq 7, 3) := by decide +kernel
theorem zd_XReader_read_152 : decode zb_XReader_read 152 = .ok (.iconst 1, 1) := by decide +kernel
theorem zd_XReader_read_153 : decode zb_XReader_read 153 = .ok (.goto 4, 3) := by decide +kernel
theorem zd_XReader_read_156 : decode zb_XReader_read 156 = .ok (.iconst 0, 1) := by decide +kernel
theorem zd_XReader_read_157 : decode zb_XReader_read 157 = .ok (.istore 4, 2) := by decide +kernel
theorem zd_XReader_read_159 : decode zb_XReader_read 159 = .ok (.iinc 5 1, 3) := by decide +kernel
theorem zd_XReader_read_162 : decode zb_XReader_read 162 = .ok (.goto (-95), 3) := by decide +kernel
theorem zd_XReader_read_165 : decode zb_XReader_read 165 = .ok (.iload 4, 2) := by decide +kernel
theorem zd_XReader_read_167 : decode zb_XReader_read 167 = .ok (.ifCond .eq 12, 3) := by decide +kernel
theorem zd_XReader_read_170 : decode zb_XReader_read 170 = .ok (.aload_n 0, 1) := by decide +kernel
theorem zd_XReader_read_171 : decode zb_XReader_read 171 = .ok (.iconst 1, 1) := by decide +kernel
theorem zd_XReader_read_172 : decode zb_XReader_read 172 = .ok (.aload_n 0, 1) := by decide +kernel
theorem zd_XReader_read_173 : decode zb_XReader_read 173 = .ok (.getfield 27, 3) := by decide +kernel
theorem zd_XReader_read_176 : decode zb_XReader_read 176 = .ok (.invokevirtual 77, 3) := by decide +kernel
theorem zd_XReader_read_179 : decode zb_XReader_read 179 = .ok (.aload_n 0, 1) := by decide +kernel
theorem zd_XReader_read_180 : decode zb_XReader_read 180 = .ok (.bipush 125, 2) := by decide +kernel
theorem zd_XReader_read_182 : decode zb_XReader_read 182 = .ok (.invokevirtual 45, 3) := by decide +kernel
theorem zd_XReader_read_185 : decode zb_XReader_read 185 = .ok (.aload_n 0, 1) := by decide +kernel
theorem zd_XReader_read_186 : decode zb_XReader_read 186 = .ok (.getfield 27, 3) := by decide +kernel
theorem zd_XReader_read_189 : decode zb_XReader_read 189 = .ok (.aload_n 0, 1) := by decide +kernel
theorem zd_XReader_read_190 : decode zb_XReader_read 190 = .ok (.getfield 19, 3) := by decide +kernel
theorem zd_XReader_read_193 : decode zb_XReader_read 193 = .ok (.if_icmp .ge 12, 3) := by decide +kernel
theorem zd_XReader_read_196 : decode zb_XReader_read 196 = .ok (.aload_n 0, 1) := by decide +kernel
theorem zd_XReader_read_197 : decode zb_XReader_read 197 = .ok (.iconst 1, 1) := by decide +kernel
theorem zd_XReader_read_198 : decode zb_XReader_read 198 = .ok (.aload_n 0, 1) := by decide +kernel
theorem zd_XReader_read_199 : decode zb_XReader_read 199 = .ok (.getfield 27, 3) := by decide +kernel
theorem zd_XReader_read_202 : decode zb_XReader_read 202 = .ok (.invokevirtual 77, 3) := by decide +kernel
theorem zd_XReader_read_205 : decode zb_XReader_read 205 = .ok (.return_, 1) := by decide +kernel
theorem zw_55 : (Jvm.Cond.fieldLink "OrreryBox$Reader" (23 : Nat) "OrreryBox$Reader" "scene" "LOrreryBox$Scene;") ∈ gw := gw_t 55 (by decide +kernel) rfl
theorem zw_1081 : (Jvm.Cond.methodLinkNest "OrreryBox$Reader" (36 : Nat) ({ cls := "OrreryBox$Scene", name := "clear", desc := "()V" } : Jvm.MethodName) "OrreryBox") ∈ gn := gn_t 1081 (by decide +kernel) rfl
theorem zs_XReader_36 : zwVN "OrreryBox$Reader" 36 "OrreryBox$Scene" zy_XScene_clear "OrreryBox" zb_XScene_clear 2 none := ⟨zw_1081, zw_278, zv_0, zw_5, zc_XScene_clear⟩
theorem zw_1082 : (Jvm.Cond.methodLink "OrreryBox$Reader" (41 : Nat) ({ cls := "OrreryBox$Reader", name := "step", desc := "(I)V" } : Jvm.MethodName)) ∈ gw := gw_t 1082 (by decide +kernel) rfl
theorem zw_1084 : (Jvm.Cond.instanceMethod ({ cls := "OrreryBox$Reader", name := "step", desc := "(I)V" } : Jvm.MethodName)) ∈ gw := gw_t 1084 (by decide +kernel) rfl
theorem zv_47 : (Jvm.Cond.selects "OrreryBox$Reader" (⟨"OrreryBox$Reader", "step", "(I)V"⟩ : MethodName) ⟨"OrreryBox$Reader", "step", "(I)V"⟩) ∈ gw := gw_s 47 (by decide +kernel) rfl
theorem zs_XReader_41 : zwV "OrreryBox$Reader" 41 "OrreryBox$Reader" zy_XReader_step zb_XReader_step 2 none := ⟨zw_1082, zw_1084, zv_47, zw_2, zc_XReader_step⟩
theorem zw_1086 : (Jvm.Cond.methodLink "OrreryBox$Reader" (45 : Nat) ({ cls := "OrreryBox$Reader", name := "need", desc := "(C)V" } : Jvm.MethodName)) ∈ gw := gw_t 1086 (by decide +kernel) rfl
theorem zw_1088 : (Jvm.Cond.instanceMethod ({ cls := "OrreryBox$Reader", name := "need", desc := "(C)V" } : Jvm.MethodName)) ∈ gw := gw_t 1088 (by decide +kernel) rfl
theorem zv_48 : (Jvm.Cond.selects "OrreryBox$Reader" (⟨"OrreryBox$Reader", "need", "(C)V"⟩ : MethodName) ⟨"OrreryBox$Reader", "need", "(C)V"⟩) ∈ gw := gw_s 48 (by decide +kernel) rfl
theorem zs_XReader_45 : zwV "OrreryBox$Reader" 45 "OrreryBox$Reader" zy_XReader_need zb_XReader_need 2 none := ⟨zw_1086, zw_1088, zv_48, zw_2, zc_XReader_need⟩
set_option maxHeartbeats 4000000 in
set_option maxRecDepth 100000 in
theorem e_XReader_read (l : Launch) (D : va_G) (tA : Nat → ClassId) (b : Nat) (f : zV) (n : Nat) (gc : Nat → Int32) (gv : Nat → Int32) (gl : Nat → Int32) (hf : f 3 = some (.inr (7, [.int 0, .int 0, .ref (b + 4), .null, .int 0, .int 0, .int 0, .null]))) (hs : f 751 = some (.inr (8, zsO b 752 0 0))) (hc : f 752 = some (.inl (tA 0, 5, .inl (gc)))) (hv : f ((752 + 22)) = some (.inl (tA 0, 7, .inl (gv)))) (hl_ : f ((752 + 23)) = some (.inl (tA 0, 4, .inl (gl))))  (hl : l.stackTraces = false) : zMT l D tA b zy_XReader_read zb_XReader_read 6 none 8 133 1 6 [.ref (b + 3), .ref (b + 1), .int 0, .ref (b + 751)] f n "java/lang/IllegalArgumentException" (zu (zu (zu (zu (zu (f) 3 (.inr (7, [.int 1, .int 0, .ref (b + 4), .ref (b + 1), .int 0, .int 0, .int 0, .ref (b + 751)]))) 752 (.inl (tA 0, 5, .inl (zclr gc 5)))) ((752 + 22)) (.inl (tA 0, 7, .inl (zview gv)))) ((752 + 23)) (.inl (tA 0, 4, .inl (zlamp gl)))) 751 (.inr (8, [.ref (b + 752), .ref (b + (752 + 1)), .ref (b + (752 + 2)), .ref (b + (752 + 19)), .ref (b + (752 + 20)), .ref (b + (752 + 21)), .ref (b + (752 + 22)), .ref (b + (752 + 23)), .int 0, .int 0, .ref (b + (752 + 24))]))) (n + 1) := by
  refine zMT_of (own := "OrreryBox$Reader") (plainFor_of_name (by decide)) rfl (Nat.le_of_ble_eq_true rfl) (fun p e s m below meth c F hno hH => ?_)
  refine zr_aload_n F zd_XReader_read_0 rfl ?_
  refine zr_aload_n F zd_XReader_read_1 rfl ?_
  refine zr_put F 7 3 zd_XReader_read_2 hf rfl (by decide) zw_51 rfl rfl rfl rfl (by exact (Nat.le_of_ble_eq_true rfl)) ?_
  refine zr_norm (zu (f) 3 (.inr (7, [.int 0, .int 0, .ref (b + 4), .ref (b + 1), .int 0, .int 0, .int 0, .null]))) _ (rfl) rfl ?_
  refine zr_aload_n F zd_XReader_read_5 rfl ?_
  refine zr_iload_n F zd_XReader_read_6 rfl ?_
  refine zr_put F 7 4 zd_XReader_read_7 (zu_s _ _ _) rfl (by decide) zw_52 rfl rfl rfl rfl (by exact (Nat.le_of_ble_eq_true rfl)) ?_
  refine zr_norm (zu (f) 3 (.inr (7, [.int 0, .int 0, .ref (b + 4), .ref (b + 1), .int 0, .int 0, .int 0, .null]))) _ (zu_zu _ _ _ _) rfl ?_
  refine zr_aload_n F zd_XReader_read_10 rfl ?_
  refine zr_aload_n F zd_XReader_read_11 rfl ?_
  refine zr_put F 7 7 zd_XReader_read_12 (zu_s _ _ _) rfl (by decide) zw_55 rfl rfl rfl rfl (by exact (Nat.le_of_ble_eq_true rfl)) ?_
  refine zr_norm (zu (f) 3 (.inr (7, [.int 0, .int 0, .ref (b + 4), .ref (b + 1), .int 0, .int 0, .int 0, .ref (b + 751)]))) _ (zu_zu _ _ _ _) rfl ?_
  refine zr_aload_n F zd_XReader_read_15 rfl ?_
  refine zr_iconstv (v := 0) F zd_XReader_read_16 (by decide) ?_
  refine zr_put F 7 5 zd_XReader_read_17 (zu_s _ _ _) rfl (by decide) zw_53 rfl rfl rfl rfl (by exact (Nat.le_of_ble_eq_true rfl)) ?_
  refine zr_norm (zu (f) 3 (.inr (7, [.int 0, .int 0, .ref (b + 4), .ref (b + 1), .int 0, .int 0, .int 0, .ref (b + 751)]))) _ (zu_zu _ _ _ _) rfl ?_
  refine zr_aload_n F zd_XReader_read_20 rfl ?_
  refine zr_iconstv (v := 0) F zd_XReader_read_21 (by decide) ?_
  refine zr_put F 7 0 zd_XReader_read_22 (zu_s _ _ _) rfl (by decide) zw_46 rfl rfl rfl rfl (by exact (Nat.le_of_ble_eq_true rfl)) ?_
  refine zr_norm (zu (f) 3 (.inr (7, [.int 0, .int 0, .ref (b + 4), .ref (b + 1), .int 0, .int 0, .int 0, .ref (b + 751)]))) _ (zu_zu _ _ _ _) rfl ?_
  refine zr_aload_n F zd_XReader_read_25 rfl ?_
  refine zr_iconstv (v := 0) F zd_XReader_read_26 (by decide) ?_
  refine zr_put F 7 1 zd_XReader_read_27 (zu_s _ _ _) rfl (by decide) zw_48 rfl rfl rfl rfl (by exact (Nat.le_of_ble_eq_true rfl)) ?_
  refine zr_norm (zu (f) 3 (.inr (7, [.int 0, .int 0, .ref (b + 4), .ref (b + 1), .int 0, .int 0, .int 0, .ref (b + 751)]))) _ (zu_zu _ _ _ _) rfl ?_
  refine zr_aload_n F zd_XReader_read_30 rfl ?_
  refine zr_get F 7 7 zd_XReader_read_31 (zu_s _ _ _) rfl (by decide) zw_55 rfl (by rfl) ?_
  refine zr_callVN0 F (c_XScene_clear l D tA b _ _ 751 752 (752 + 22) (752 + 23) (.ref (b + (752 + 1))) (.ref (b + (752 + 2))) (.ref (b + (752 + 19))) (.ref (b + (752 + 20))) (.ref (b + (752 + 21))) (.ref (b + (752 + 24))) 0 0 gc gv gl ⟨by omega, by omega, by omega, by omega, by omega, by omega⟩ ((zu_n _ (by omega)).trans hs) ((zu_n _ (by omega)).trans hc) ((zu_n _ (by omega)).trans hv) ((zu_n _ (by omega)).trans hl_)) zd_XReader_read_34 ((zu_n _ (by omega)).trans hs) rfl zs_XReader_36 rfl zq_XScene_clear rfl rfl ⟨(Nat.le_of_ble_eq_true rfl), (Nat.le_of_ble_eq_true rfl)⟩ (Nat.le_of_ble_eq_true rfl) ⟨(Nat.le_of_ble_eq_true rfl), (Nat.le_of_ble_eq_true rfl)⟩ ?_
  refine zr_norm (zu (zu (zu (zu (zu (f) 3 (.inr (7, [.int 0, .int 0, .ref (b + 4), .ref (b + 1), .int 0, .int 0, .int 0, .ref (b + 751)]))) 752 (.inl (tA 0, 5, .inl (zclr gc 5)))) ((752 + 22)) (.inl (tA 0, 7, .inl (zview gv)))) ((752 + 23)) (.inl (tA 0, 4, .inl (zlamp gl)))) 751 (.inr (8, [.ref (b + 752), .ref (b + (752 + 1)), .ref (b + (752 + 2)), .ref (b + (752 + 19)), .ref (b + (752 + 20)), .ref (b + (752 + 21)), .ref (b + (752 + 22)), .ref (b + (752 + 23)), .int 0, .int 0, .ref (b + (752 + 24))]))) _ (rfl) rfl ?_
  refine zr_aload_n F zd_XReader_read_37 rfl ?_
  refine zr_iconstv (v := 0) F zd_XReader_read_38 (by decide) ?_
  refine zr_callV0 F (e_XReader_step l D tA b _ _ 0 0 (.ref (b + 1)) 0 (.ref (b + 751)) ((zu_n _ (by omega)).trans ((zu_n _ (by omega)).trans ((zu_n _ (by omega)).trans ((zu_n _ (by omega)).trans (zu_s _ _ _))))) ) zd_XReader_read_39 ((zu_n _ (by omega)).trans ((zu_n _ (by omega)).trans ((zu_n _ (by omega)).trans ((zu_n _ (by omega)).trans (zu_s _ _ _))))) rfl zs_XReader_41 rfl zq_XReader_step rfl rfl ⟨(Nat.le_of_ble_eq_true rfl), (Nat.le_of_ble_eq_true rfl)⟩ (Nat.le_of_ble_eq_true rfl) ⟨(Nat.le_of_ble_eq_true rfl), (Nat.le_of_ble_eq_true rfl)⟩ ?_
  refine zr_norm (zu (zu (zu (zu (zu (f) 3 (.inr (7, [.int 0, .int 0, .ref (b + 4), .ref (b + 1), .int 0, .int 0, .int 0, .ref (b + 751)]))) 752 (.inl (tA 0, 5, .inl (zclr gc 5)))) ((752 + 22)) (.inl (tA 0, 7, .inl (zview gv)))) ((752 + 23)) (.inl (tA 0, 4, .inl (zlamp gl)))) 751 (.inr (8, [.ref (b + 752), .ref (b + (752 + 1)), .ref (b + (752 + 2)), .ref (b + (752 + 19)), .ref (b + (752 + 20)), .ref (b + (752 + 21)), .ref (b + (752 + 22)), .ref (b + (752 + 23)), .int 0, .int 0, .ref (b + (752 + 24))]))) _ (zu_mid4 (by omega) (by omega) (by omega) (by omega)) rfl ?_
  refine zr_aload_n F zd_XReader_read_42 rfl ?_
  refine zr_bipushv (v := 123) F zd_XReader_read_43 (by decide) ?_
  exact zr_thrV F hno (zMT_eq (e_XReader_need l D tA b _ _ 123 0 0 (.ref (b + 1)) 0 (.ref (b + 751)) ((zu_n _ (by omega)).trans ((zu_n _ (by omega)).trans ((zu_n _ (by omega)).trans ((zu_n _ (by omega)).trans (zu_s _ _ _)))))  hl) (f2 := zu (zu (zu (zu (zu (f) 3 (.inr (7, [.int 1, .int 0, .ref (b + 4), .ref (b + 1), .int 0, .int 0, .int 0, .ref (b + 751)]))) 752 (.inl (tA 0, 5, .inl (zclr gc 5)))) ((752 + 22)) (.inl (tA 0, 7, .inl (zview gv)))) ((752 + 23)) (.inl (tA 0, 4, .inl (zlamp gl)))) 751 (.inr (8, [.ref (b + 752), .ref (b + (752 + 1)), .ref (b + (752 + 2)), .ref (b + (752 + 19)), .ref (b + (752 + 20)), .ref (b + (752 + 21)), .ref (b + (752 + 22)), .ref (b + (752 + 23)), .int 0, .int 0, .ref (b + (752 + 24))]))) (zu_mid4 (by omega) (by omega) (by omega) (by omega))) zd_XReader_read_45 ((zu_n _ (by omega)).trans ((zu_n _ (by omega)).trans ((zu_n _ (by omega)).trans ((zu_n _ (by omega)).trans (zu_s _ _ _))))) rfl zs_XReader_45 rfl zq_XReader_need rfl rfl ⟨(Nat.le_of_ble_eq_true rfl), (Nat.le_of_ble_eq_true rfl)⟩ (Nat.le_of_ble_eq_true rfl) ⟨(Nat.le_of_ble_eq_true rfl), (Nat.le_of_ble_eq_true rfl)⟩ ⟨(Nat.le_of_ble_eq_true rfl), (Nat.le_of_ble_eq_true rfl)⟩
abbrev zb_OB_freeScene : ByteArray := prog_1_method_24_code
def zy_OB_freeScene : MethodName := ⟨"OrreryBox", "freeScene", "()LOrreryBox$Scene;"⟩
theorem zc_OB_freeScene : Cond.code zy_OB_freeScene zb_OB_freeScene 3 (some (.object "OrreryBox$Scene")) ∈ gw := gw_t 1076 (by decide +kernel) rfl
theorem zq_OB_freeScene : zy_OB_freeScene.cls ≠ "java/lang/invoke/MethodHandle" ∧ zy_OB_freeScene.cls ≠ "java/lang/invoke/VarHandle" ∧ (parseMethodDescriptor zy_OB_freeScene.desc).map (fun d => d.parameters.length) = some 0 := by decide +kernel
theorem zd_OB_freeScene_0 : decode zb_OB_freeScene 0 = .ok (.aload_n 0, 1) := by decide +kernel
theorem zd_OB_freeScene_1 : decode zb_OB_freeScene 1 = .ok (.getfield 16, 3) := by decide +kernel
theorem zd_OB_freeScene_4 : decode zb_OB_freeScene 4 = .ok (.iconst 0, 1) := by decide +kernel
theorem zd_OB_freeScene_5 : decode zb_OB_freeScene 5 = .ok (.aaload, 1) := by decide +kernel
theorem zd_OB_freeScene_6 : decode zb_OB_freeScene 6 = .ok (.astore_n 1, 1) := by decide +kernel
theorem zd_OB_freeScene_7 : decode zb_OB_freeScene 7 = .ok (.iconst 0, 1) := by decide +kernel
theorem zd_OB_freeScene_8 : decode zb_OB_freeScene 8 = .ok (.istore_n 2, 1) := by decide +kernel
theorem zd_OB_freeScene_9 : decode zb_OB_freeScene 9 = .ok (.iload_n 2, 1) := by decide +kernel
theorem zd_OB_freeScene_10 : decode zb_OB_freeScene 10 = .ok (.aload_n 0, 1) := by decide +kernel
theorem zd_OB_freeScene_11 : decode zb_OB_freeScene 11 = .ok (.getfield 16, 3) := by decide +kernel
theorem zd_OB_freeScene_14 : decode zb_OB_freeScene 14 = .ok (.arraylength, 1) := by decide +kernel
theorem zd_OB_freeScene_15 : decode zb_OB_freeScene 15 = .ok (.if_icmp .ge 45, 3) := by decide +kernel
theorem zd_OB_freeScene_18 : decode zb_OB_freeScene 18 = .ok (.aload_n 0, 1) := by decide +kernel
theorem zd_OB_freeScene_19 : decode zb_OB_freeScene 19 = .ok (.getfield 16, 3) := by decide +kernel
theorem zd_OB_freeScene_22 : decode zb_OB_freeScene 22 = .ok (.iload_n 2, 1) := by decide +kernel
theorem zd_OB_freeScene_23 : decode zb_OB_freeScene 23 = .ok (.aaload, 1) := by decide +kernel
theorem zd_OB_freeScene_24 : decode zb_OB_freeScene 24 = .ok (.aload_n 0, 1) := by decide +kernel
theorem zd_OB_freeScene_25 : decode zb_OB_freeScene 25 = .ok (.getfield 49, 3) := by decide +kernel
theorem zd_OB_freeScene_28 : decode zb_OB_freeScene 28 = .ok (.if_acmp .eq 26, 3) := by decide +kernel
theorem zd_OB_freeScene_31 : decode zb_OB_freeScene 31 = .ok (.aload_n 0, 1) := by decide +kernel
theorem zd_OB_freeScene_32 : decode zb_OB_freeScene 32 = .ok (.getfield 16, 3) := by decide +kernel
theorem zd_OB_freeScene_35 : decode zb_OB_freeScene 35 = .ok (.iload_n 2, 1) := by decide +kernel
theorem zd_OB_freeScene_36 : decode zb_OB_freeScene 36 = .ok (.aaload, 1) := by decide +kernel
theorem zd_OB_freeScene_37 : decode zb_OB_freeScene 37 = .ok (.aload_n 0, 1) := by decide +kernel
theorem zd_OB_freeScene_38 : decode zb_OB_freeScene 38 = .ok (.getfield 65, 3) := by decide +kernel
theorem zd_OB_freeScene_41 : decode zb_OB_freeScene 41 = .ok (.getfield 232, 3) := by decide +kernel
theorem zd_OB_freeScene_44 : decode zb_OB_freeScene 44 = .ok (.if_acmp .eq 10, 3) := by decide +kernel
theorem zd_OB_freeScene_47 : decode zb_OB_freeScene 47 = .ok (.aload_n 0, 1) := by decide +kernel
theorem zd_OB_freeScene_48 : decode zb_OB_freeScene 48 = .ok (.getfield 16, 3) := by decide +kernel
theorem zd_OB_freeScene_51 : decode zb_OB_freeScene 51 = .ok (.iload_n 2, 1) := by decide +kernel
theorem zd_OB_freeScene_52 : decode zb_OB_freeScene 52 = .ok (.aaload, 1) := by decide +kernel
theorem zd_OB_freeScene_53 : decode zb_OB_freeScene 53 = .ok (.astore_n 1, 1) := by decide +kernel
theorem zd_OB_freeScene_54 : decode zb_OB_freeScene 54 = .ok (.iinc 2 1, 3) := by decide +kernel
theorem zd_OB_freeScene_57 : decode zb_OB_freeScene 57 = .ok (.goto (-48), 3) := by decide +kernel
theorem zd_OB_freeScene_60 : decode zb_OB_freeScene 60 = .ok (.aload_n 1, 1) := by decide +kernel
theorem zd_OB_freeScene_61 : decode zb_OB_freeScene 61 = .ok (.areturn, 1) := by decide +kernel
theorem zw_436 : (Jvm.Cond.fieldLink "OrreryBox" (232 : Nat) "OrreryBox$Picture" "scene" "LOrreryBox$Scene;") ∈ gw := gw_t 436 (by decide +kernel) rfl
set_option maxHeartbeats 4000000 in
set_option maxRecDepth 100000 in
theorem e_OB_freeScene (l : Launch) (D : va_G) (tA : Nat → ClassId) (b : Nat) (f : zV) (n : Nat) (w : Int32) (h : Int32) (pt : Int32) (pa : Int32) (g2 : Nat → Option Nat) (h0 : f 0 = some (.inr (0, [.int w, .int h, .ref (b + 1), .int 0, .ref (b + 2), .ref (b + 11), .ref (b + 3), .ref (b + 1121), .ref (b + 1178), .ref (b + 5), .int 0, .int (-1)]))) (h2 : f 2 = some (.inl (tA 4, 3, .inr (.inr (.inr (.inr (g2))))))) (hp : f 1178 = some (.inr (5, [.int pt, .ref (b + (1179 + 4)), .ref (b + (1179 + 5)), .null, .int w, .int h, .int pa, .int 0, .ref (b + 1179), .ref (b + (1179 + 1)), .int 0, .ref (b + (1179 + 2)), .int 0, .long 0, .int 0, .int 0, .int 0, .int 0]))) (k0 : va_rf (g2 (0 : Int32).toNatClampNeg) = .ref (b + 11)) (k1 : va_rf (g2 (1 : Int32).toNatClampNeg) = .ref (b + 381)) (k2 : va_rf (g2 (2 : Int32).toNatClampNeg) = .ref (b + 751)) : zM l D tA b zy_OB_freeScene zb_OB_freeScene 3 (some (.object "OrreryBox$Scene")) 0 0 0 0 [.ref (b + 0)] f n (zE (some (.ref (b + 751))) f n) := by
  refine zM_of (own := "OrreryBox") (plainFor_of_name (by decide)) rfl (Nat.le_of_ble_eq_true rfl) (fun p e s m below meth c F hr hin hH => ?_)
  refine zr_aload_n F zd_OB_freeScene_0 rfl ?_
  refine zr_get F 0 4 zd_OB_freeScene_1 h0 rfl (by decide) zw_492 rfl (by rfl) ?_
  refine zr_iconstv (v := 0) F zd_OB_freeScene_4 (by decide) ?_
  refine zr_aald (v := .ref (b + 11)) F 4 zd_OB_freeScene_5 h2 rfl rfl (zx_in (by decide)) k0 ?_
  refine zr_astore_n F zd_OB_freeScene_6 (by decide) ?_
  refine zr_iconstv (v := 0) F zd_OB_freeScene_7 (by decide) ?_
  refine zr_istore_n F zd_OB_freeScene_8 (by decide) ?_
  refine zr_iload_n F zd_OB_freeScene_9 rfl ?_
  refine zr_aload_n F zd_OB_freeScene_10 rfl ?_
  refine zr_get F 0 4 zd_OB_freeScene_11 h0 rfl (by decide) zw_492 rfl (by rfl) ?_
  refine zr_alen (v := 3) F 4 zd_OB_freeScene_14 h2 rfl (by rfl) ?_
  refine zr_icmp_ge F 60 zd_OB_freeScene_15 (by decide) (fun h => absurd h (by decide)) (fun _ => ?_)
  refine zr_aload_n F zd_OB_freeScene_18 rfl ?_
  refine zr_get F 0 4 zd_OB_freeScene_19 h0 rfl (by decide) zw_492 rfl (by rfl) ?_
  refine zr_iload_n F zd_OB_freeScene_22 rfl ?_
  refine zr_aald (v := .ref (b + 11)) F 4 zd_OB_freeScene_23 h2 rfl rfl (zx_in (by decide)) k0 ?_
  refine zr_aload_n F zd_OB_freeScene_24 rfl ?_
  refine zr_get F 0 5 zd_OB_freeScene_25 h0 rfl (by decide) zw_493 rfl (by rfl) ?_
  refine zr_acmp_eq F 54 zd_OB_freeScene_28 (by decide) (fun _ => ?_) (fun h => absurd (by omega) h)
  refine zr_iinc (v := 1) F zd_OB_freeScene_54 rfl (by decide) (by decide) ?_
  refine zr_goto F 9 zd_OB_freeScene_57 (by decide) ?_
  refine zr_iload_n F zd_OB_freeScene_9 rfl ?_
  refine zr_aload_n F zd_OB_freeScene_10 rfl ?_
  refine zr_get F 0 4 zd_OB_freeScene_11 h0 rfl (by decide) zw_492 rfl (by rfl) ?_
  refine zr_alen (v := 3) F 4 zd_OB_freeScene_14 h2 rfl (by rfl) ?_
  refine zr_icmp_ge F 60 zd_OB_freeScene_15 (by decide) (fun h => absurd h (by decide)) (fun _ => ?_)
  refine zr_aload_n F zd_OB_freeScene_18 rfl ?_
  refine zr_get F 0 4 zd_OB_freeScene_19 h0 rfl (by decide) zw_492 rfl (by rfl) ?_
  refine zr_iload_n F zd_OB_freeScene_22 rfl ?_
  refine zr_aald (v := .ref (b + 381)) F 4 zd_OB_freeScene_23 h2 rfl rfl (zx_in (by decide)) k1 ?_
  refine zr_aload_n F zd_OB_freeScene_24 rfl ?_
  refine zr_get F 0 5 zd_OB_freeScene_25 h0 rfl (by decide) zw_493 rfl (by rfl) ?_
  refine zr_acmp_eq F 54 zd_OB_freeScene_28 (by decide) (fun h => absurd h (by omega)) (fun _ => ?_)
  refine zr_aload_n F zd_OB_freeScene_31 rfl ?_
  refine zr_get F 0 4 zd_OB_freeScene_32 h0 rfl (by decide) zw_492 rfl (by rfl) ?_
  refine zr_iload_n F zd_OB_freeScene_35 rfl ?_
  refine zr_aald (v := .ref (b + 381)) F 4 zd_OB_freeScene_36 h2 rfl rfl (zx_in (by decide)) k1 ?_
  refine zr_aload_n F zd_OB_freeScene_37 rfl ?_
  refine zr_get F 0 8 zd_OB_freeScene_38 h0 rfl (by decide) zw_496 rfl (by rfl) ?_
  refine zr_get F 5 3 zd_OB_freeScene_41 hp rfl (by decide) zw_436 rfl (by rfl) ?_
  refine zr_acmp_eqN F 54 zd_OB_freeScene_44 (by decide) ?_
  refine zr_aload_n F zd_OB_freeScene_47 rfl ?_
  refine zr_get F 0 4 zd_OB_freeScene_48 h0 rfl (by decide) zw_492 rfl (by rfl) ?_
  refine zr_iload_n F zd_OB_freeScene_51 rfl ?_
  refine zr_aald (v := .ref (b + 381)) F 4 zd_OB_freeScene_52 h2 rfl rfl (zx_in (by decide)) k1 ?_
  refine zr_astore_n F zd_OB_freeScene_53 (by decide) ?_
  refine zr_iinc (v := 2) F zd_OB_freeScene_54 rfl (by decide) (by decide) ?_
  refine zr_goto F 9 zd_OB_freeScene_57 (by decide) ?_
  refine zr_iload_n F zd_OB_freeScene_9 rfl ?_
  refine zr_aload_n F zd_OB_freeScene_10 rfl ?_
  refine zr_get F 0 4 zd_OB_freeScene_11 h0 rfl (by decide) zw_492 rfl (by rfl) ?_
  refine zr_alen (v := 3) F 4 zd_OB_freeScene_14 h2 rfl (by rfl) ?_
  refine zr_icmp_ge F 60 zd_OB_freeScene_15 (by decide) (fun h => absurd h (by decide)) (fun _ => ?_)
  refine zr_aload_n F zd_OB_freeScene_18 rfl ?_
  refine zr_get F 0 4 zd_OB_freeScene_19 h0 rfl (by decide) zw_492 rfl (by rfl) ?_
  refine zr_iload_n F zd_OB_freeScene_22 rfl ?_
  refine zr_aald (v := .ref (b + 751)) F 4 zd_OB_freeScene_23 h2 rfl rfl (zx_in (by decide)) k2 ?_
  refine zr_aload_n F zd_OB_freeScene_24 rfl ?_
  refine zr_get F 0 5 zd_OB_freeScene_25 h0 rfl (by decide) zw_493 rfl (by rfl) ?_
  refine zr_acmp_eq F 54 zd_OB_freeScene_28 (by decide) (fun h => absurd h (by omega)) (fun _ => ?_)
  refine zr_aload_n F zd_OB_freeScene_31 rfl ?_
  refine zr_get F 0 4 zd_OB_freeScene_32 h0 rfl (by decide) zw_492 rfl (by rfl) ?_
  refine zr_iload_n F zd_OB_freeScene_35 rfl ?_
  refine zr_aald (v := .ref (b + 751)) F 4 zd_OB_freeScene_36 h2 rfl rfl (zx_in (by decide)) k2 ?_
  refine zr_aload_n F zd_OB_freeScene_37 rfl ?_
  refine zr_get F 0 8 zd_OB_freeScene_38 h0 rfl (by decide) zw_496 rfl (by rfl) ?_
  refine zr_get F 5 3 zd_OB_freeScene_41 hp rfl (by decide) zw_436 rfl (by rfl) ?_
  refine zr_acmp_eqN F 54 zd_OB_freeScene_44 (by decide) ?_
  refine zr_aload_n F zd_OB_freeScene_47 rfl ?_
  refine zr_get F 0 4 zd_OB_freeScene_48 h0 rfl (by decide) zw_492 rfl (by rfl) ?_
  refine zr_iload_n F zd_OB_freeScene_51 rfl ?_
  refine zr_aald (v := .ref (b + 751)) F 4 zd_OB_freeScene_52 h2 rfl rfl (zx_in (by decide)) k2 ?_
  refine zr_astore_n F zd_OB_freeScene_53 (by decide) ?_
  refine zr_iinc (v := 3) F zd_OB_freeScene_54 rfl (by decide) (by decide) ?_
  refine zr_goto F 9 zd_OB_freeScene_57 (by decide) ?_
  refine zr_iload_n F zd_OB_freeScene_9 rfl ?_
  refine zr_aload_n F zd_OB_freeScene_10 rfl ?_
  refine zr_get F 0 4 zd_OB_freeScene_11 h0 rfl (by decide) zw_492 rfl (by rfl) ?_
  refine zr_alen (v := 3) F 4 zd_OB_freeScene_14 h2 rfl (by rfl) ?_
  refine zr_icmp_ge F 60 zd_OB_freeScene_15 (by decide) (fun _ => ?_) (fun h => absurd h (by decide))
  refine zr_aload_n F zd_OB_freeScene_60 rfl ?_
  exact zr_aret F hr (Or.inl ⟨_, rfl⟩) (Or.inr ⟨_, rfl⟩) zd_OB_freeScene_61 (Nat.le_of_ble_eq_true rfl) (Nat.le_of_ble_eq_true rfl) ⟨rfl, rfl, rfl⟩
abbrev zb_OB_load : ByteArray := prog_1_method_4_code
def zy_OB_load : MethodName := ⟨"OrreryBox", "load", "()I"⟩
theorem zc_OB_load : Cond.code zy_OB_load zb_OB_load 3 (some .int) ∈ gw := gw_t 1072 (by decide +kernel) rfl
theorem zq_OB_load : zy_OB_load.cls ≠ "java/lang/invoke/MethodHandle" ∧ zy_OB_load.cls ≠ "java/lang/invoke/VarHandle" ∧ (parseMethodDescriptor zy_OB_load.desc).map (fun d => d.parameters.length) = some 0 := by decide +kernel
theorem zd_OB_load_0 : decode zb_OB_load 0 = .ok (.aload_n 0, 1) := by decide +kernel
theorem zd_OB_load_1 : decode zb_OB_load 1 = .ok (.getfield 69, 3) := by decide +kernel
theorem zd_OB_load_4 : decode zb_OB_load 4 = .ok (.istore_n 1, 1) := by decide +kernel
theorem zd_OB_load_5 : decode zb_OB_load 5 = .ok (.aload_n 0, 1) := by decide +kernel
theorem zd_OB_load_6 : decode zb_OB_load 6 = .ok (.iconst 0, 1) := by decide +kernel
theorem zd_OB_load_7 : decode zb_OB_load 7 = .ok (.putfield 69, 3) := by decide +kernel
theorem zd_OB_load_10 : decode zb_OB_load 10 = .ok (.aload_n 0, 1) := by decide +kernel
theorem zd_OB_load_11 : decode zb_OB_load 11 = .ok (.invokevirtual 76, 3) := by decide +kernel
theorem zd_OB_load_14 : decode zb_OB_load 14 = .ok (.astore_n 2, 1) := by decide +kernel
theorem zd_OB_load_15 : decode zb_OB_load 15 = .ok (.aload_n 0, 1) := by decide +kernel
theorem zd_OB_load_16 : decode zb_OB_load 16 = .ok (.getfield 23, 3) := by decide +kernel
theorem zd_OB_load_19 : decode zb_OB_load 19 = .ok (.aload_n 0, 1) := by decide +kernel
theorem zd_OB_load_20 : decode zb_OB_load 20 = .ok (.getfield 10, 3) := by decide +kernel
theorem zd_OB_load_23 : decode zb_OB_load 23 = .ok (.iload_n 1, 1) := by decide +kernel
theorem zd_OB_load_24 : decode zb_OB_load 24 = .ok (.aload_n 2, 1) := by decide +kernel
theorem zd_OB_load_25 : decode zb_OB_load 25 = .ok (.invokevirtual 80, 3) := by decide +kernel
theorem zd_OB_load_28 : decode zb_OB_load 28 = .ok (.aload_n 0, 1) := by decide +kernel
theorem zd_OB_load_29 : decode zb_OB_load 29 = .ok (.aload_n 2, 1) := by decide +kernel
theorem zd_OB_load_30 : decode zb_OB_load 30 = .ok (.putfield 49, 3) := by decide +kernel
theorem zd_OB_load_33 : decode zb_OB_load 33 = .ok (.aload_n 0, 1) := by decide +kernel
theorem zd_OB_load_34 : decode zb_OB_load 34 = .ok (.getfield 49, 3) := by decide +kernel
theorem zd_OB_load_37 : decode zb_OB_load 37 = .ok (.getfield 84, 3) := by decide +kernel
theorem zd_OB_load_40 : decode zb_OB_load 40 = .ok (.iconst 3, 1) := by decide +kernel
theorem zd_OB_load_41 : decode zb_OB_load 41 = .ok (.iaload, 1) := by decide +kernel
theorem zd_OB_load_42 : decode zb_OB_load 42 = .ok (.ireturn, 1) := by decide +kernel
theorem zw_1073 : (Jvm.Cond.methodLink "OrreryBox" (76 : Nat) ({ cls := "OrreryBox", name := "freeScene", desc := "()LOrreryBox$Scene;" } : Jvm.MethodName)) ∈ gw := gw_t 1073 (by decide +kernel) rfl
theorem zw_1075 : (Jvm.Cond.instanceMethod ({ cls := "OrreryBox", name := "freeScene", desc := "()LOrreryBox$Scene;" } : Jvm.MethodName)) ∈ gw := gw_t 1075 (by decide +kernel) rfl
theorem zv_46 : (Jvm.Cond.selects "OrreryBox" (⟨"OrreryBox", "freeScene", "()LOrreryBox$Scene;"⟩ : MethodName) ⟨"OrreryBox", "freeScene", "()LOrreryBox$Scene;"⟩) ∈ gw := gw_s 46 (by decide +kernel) rfl
theorem zs_OB_76 : zwV "OrreryBox" 76 "OrreryBox" zy_OB_freeScene zb_OB_freeScene 3 (some (.object "OrreryBox$Scene")) := ⟨zw_1073, zw_1075, zv_46, zw_1, zc_OB_freeScene⟩
theorem zw_1077 : (Jvm.Cond.methodLink "OrreryBox" (80 : Nat) ({ cls := "OrreryBox$Reader", name := "read", desc := "([BILOrreryBox$Scene;)V" } : Jvm.MethodName)) ∈ gw := gw_t 1077 (by decide +kernel) rfl
theorem zw_1078 : (Jvm.Cond.instanceMethod ({ cls := "OrreryBox$Reader", name := "read", desc := "([BILOrreryBox$Scene;)V" } : Jvm.MethodName)) ∈ gw := gw_t 1078 (by decide +kernel) rfl
theorem zw_1079 : (Jvm.Cond.selects "OrreryBox$Reader" ({ cls := "OrreryBox$Reader", name := "read", desc := "([BILOrreryBox$Scene;)V" } : Jvm.MethodName) ({ cls := "OrreryBox$Reader", name := "read", desc := "([BILOrreryBox$Scene;)V" } : Jvm.MethodName)) ∈ gw := gw_t 1079 (by decide +kernel) rfl
theorem zs_OB_80 : zwV "OrreryBox" 80 "OrreryBox$Reader" zy_XReader_read zb_XReader_read 6 none := ⟨zw_1077, zw_1078, zw_1079, zw_2, zc_XReader_read⟩
set_option maxHeartbeats 4000000 in
set_option maxRecDepth 100000 in
theorem e_OB_load (l : Launch) (D : va_G) (tA : Nat → ClassId) (b : Nat) (f : zV) (n : Nat) (w : Int32) (h : Int32) (pt : Int32) (pa : Int32) (g2 : Nat → Option Nat) (gc : Nat → Int32) (gv : Nat → Int32) (gl : Nat → Int32) (h0 : f 0 = some (.inr (0, [.int w, .int h, .ref (b + 1), .int 0, .ref (b + 2), .ref (b + 11), .ref (b + 3), .ref (b + 1121), .ref (b + 1178), .ref (b + 5), .int 0, .int (-1)]))) (h2 : f 2 = some (.inl (tA 4, 3, .inr (.inr (.inr (.inr (g2))))))) (hp : f 1178 = some (.inr (5, [.int pt, .ref (b + (1179 + 4)), .ref (b + (1179 + 5)), .null, .int w, .int h, .int pa, .int 0, .ref (b + 1179), .ref (b + (1179 + 1)), .int 0, .ref (b + (1179 + 2)), .int 0, .long 0, .int 0, .int 0, .int 0, .int 0]))) (hf : f 3 = some (.inr (7, [.int 0, .int 0, .ref (b + 4), .null, .int 0, .int 0, .int 0, .null]))) (hs : f 751 = some (.inr (8, zsO b 752 0 0))) (hc : f 752 = some (.inl (tA 0, 5, .inl (gc)))) (hv : f ((752 + 22)) = some (.inl (tA 0, 7, .inl (gv)))) (hl_ : f ((752 + 23)) = some (.inl (tA 0, 4, .inl (gl)))) (k0 : va_rf (g2 (0 : Int32).toNatClampNeg) = .ref (b + 11)) (k1 : va_rf (g2 (1 : Int32).toNatClampNeg) = .ref (b + 381)) (k2 : va_rf (g2 (2 : Int32).toNatClampNeg) = .ref (b + 751)) (hl : l.stackTraces = false) : zMT l D tA b zy_OB_load zb_OB_load 3 (some .int) 9 158 1 6 [.ref (b + 0)] f n "java/lang/IllegalArgumentException" (zu (zu (zu (zu (zu (zu (f) 0 (.inr (0, [.int w, .int h, .ref (b + 1), .int 0, .ref (b + 2), .ref (b + 11), .ref (b + 3), .ref (b + 1121), .ref (b + 1178), .ref (b + 5), .int 0, .int (-1)]))) 3 (.inr (7, [.int 1, .int 0, .ref (b + 4), .ref (b + 1), .int 0, .int 0, .int 0, .ref (b + 751)]))) 752 (.inl (tA 0, 5, .inl (zclr gc 5)))) ((752 + 22)) (.inl (tA 0, 7, .inl (zview gv)))) ((752 + 23)) (.inl (tA 0, 4, .inl (zlamp gl)))) 751 (.inr (8, [.ref (b + 752), .ref (b + (752 + 1)), .ref (b + (752 + 2)), .ref (b + (752 + 19)), .ref (b + (752 + 20)), .ref (b + (752 + 21)), .ref (b + (752 + 22)), .ref (b + (752 + 23)), .int 0, .int 0, .ref (b + (752 + 24))]))) (n + 1) := by
  refine zMT_of (own := "OrreryBox") (plainFor_of_name (by decide)) rfl (Nat.le_of_ble_eq_true rfl) (fun p e s m below meth c F hno hH => ?_)
  refine zr_aload_n F zd_OB_load_0 rfl ?_
  refine zr_get F 0 3 zd_OB_load_1 h0 rfl (by decide) zw_491 rfl (by rfl) ?_
  refine zr_istore_n F zd_OB_load_4 (by decide) ?_
  refine zr_aload_n F zd_OB_load_5 rfl ?_
  refine zr_iconstv (v := 0) F zd_OB_load_6 (by decide) ?_
  refine zr_put F 0 3 zd_OB_load_7 h0 rfl (by decide) zw_491 rfl rfl rfl rfl (by exact (Nat.le_of_ble_eq_true rfl)) ?_
  refine zr_norm (zu (f) 0 (.inr (0, [.int w, .int h, .ref (b + 1), .int 0, .ref (b + 2), .ref (b + 11), .ref (b + 3), .ref (b + 1121), .ref (b + 1178), .ref (b + 5), .int 0, .int (-1)]))) _ (rfl) rfl ?_
  refine zr_aload_n F zd_OB_load_10 rfl ?_
  refine zr_callV1 F (e_OB_freeScene l D tA b _ _ w h pt pa g2 (zu_s _ _ _) ((zu_n _ (by omega)).trans h2) ((zu_n _ (by omega)).trans hp) k0 k1 k2) zd_OB_load_11 (zu_s _ _ _) rfl zs_OB_76 rfl zq_OB_freeScene rfl rfl ⟨(Nat.le_of_ble_eq_true rfl), (Nat.le_of_ble_eq_true rfl)⟩ (Nat.le_of_ble_eq_true rfl) ⟨(Nat.le_of_ble_eq_true rfl), (Nat.le_of_ble_eq_true rfl)⟩ ?_
  refine zr_astore_n F zd_OB_load_14 (by decide) ?_
  refine zr_aload_n F zd_OB_load_15 rfl ?_
  refine zr_get F 0 6 zd_OB_load_16 (zu_s _ _ _) rfl (by decide) zw_494 rfl (by rfl) ?_
  refine zr_aload_n F zd_OB_load_19 rfl ?_
  refine zr_get F 0 2 zd_OB_load_20 (zu_s _ _ _) rfl (by decide) zw_490 rfl (by rfl) ?_
  refine zr_iload_n F zd_OB_load_23 rfl ?_
  refine zr_aload_n F zd_OB_load_24 rfl ?_
  exact zr_thrV F hno (zMT_eq (e_XReader_read l D tA b _ _ gc gv gl ((zu_n _ (by omega)).trans hf) ((zu_n _ (by omega)).trans hs) ((zu_n _ (by omega)).trans hc) ((zu_n _ (by omega)).trans hv) ((zu_n _ (by omega)).trans hl_)  hl) (f2 := zu (zu (zu (zu (zu (zu (f) 0 (.inr (0, [.int w, .int h, .ref (b + 1), .int 0, .ref (b + 2), .ref (b + 11), .ref (b + 3), .ref (b + 1121), .ref (b + 1178), .ref (b + 5), .int 0, .int (-1)]))) 3 (.inr (7, [.int 1, .int 0, .ref (b + 4), .ref (b + 1), .int 0, .int 0, .int 0, .ref (b + 751)]))) 752 (.inl (tA 0, 5, .inl (zclr gc 5)))) ((752 + 22)) (.inl (tA 0, 7, .inl (zview gv)))) ((752 + 23)) (.inl (tA 0, 4, .inl (zlamp gl)))) 751 (.inr (8, [.ref (b + 752), .ref (b + (752 + 1)), .ref (b + (752 + 2)), .ref (b + (752 + 19)), .ref (b + (752 + 20)), .ref (b + (752 + 21)), .ref (b + (752 + 22)), .ref (b + (752 + 23)), .int 0, .int 0, .ref (b + (752 + 24))]))) (rfl)) zd_OB_load_25 ((zu_n _ (by omega)).trans hf) rfl zs_OB_80 rfl zq_XReader_read rfl rfl ⟨(Nat.le_of_ble_eq_true rfl), (Nat.le_of_ble_eq_true rfl)⟩ (Nat.le_of_ble_eq_true rfl) ⟨(Nat.le_of_ble_eq_true rfl), (Nat.le_of_ble_eq_true rfl)⟩ ⟨(Nat.le_of_ble_eq_true rfl), (Nat.le_of_ble_eq_true rfl)⟩
abbrev zb_XScene_moveTo : ByteArray := prog_9_method_4_code
def zy_XScene_moveTo : MethodName := ⟨"OrreryBox$Scene", "moveTo", "(I)V"⟩
theorem zc_XScene_moveTo : Cond.code zy_XScene_moveTo zb_XScene_moveTo 3 none ∈ gw := gw_t 556 (by decide +kernel) rfl
theorem zq_XScene_moveTo : zy_XScene_moveTo.cls ≠ "java/lang/invoke/MethodHandle" ∧ zy_XScene_moveTo.cls ≠ "java/lang/invoke/VarHandle" ∧ (parseMethodDescriptor zy_XScene_moveTo.desc).map (fun d => d.parameters.length) = some 1 := by decide +kernel
theorem zd_XScene_moveTo_0 : decode zb_XScene_moveTo 0 = .ok (.aload_n 0, 1) := by decide +kernel
theorem zd_XScene_moveTo_1 : decode zb_XScene_moveTo 1 = .ok (.iload_n 1, 1) := by decide +kernel
theorem zd_XScene_moveTo_2 : decode zb_XScene_moveTo 2 = .ok (.putfield 64, 3) := by decide +kernel
theorem zd_XScene_moveTo_5 : decode zb_XScene_moveTo 5 = .ok (.aload_n 0, 1) := by decide +kernel
theorem zd_XScene_moveTo_6 : decode zb_XScene_moveTo 6 = .ok (.iconst 0, 1) := by decide +kernel
theorem zd_XScene_moveTo_7 : decode zb_XScene_moveTo 7 = .ok (.putfield 68, 3) := by decide +kernel
theorem zd_XScene_moveTo_10 : decode zb_XScene_moveTo 10 = .ok (.iconst 0, 1) := by decide +kernel
theorem zd_XScene_moveTo_11 : decode zb_XScene_moveTo 11 = .ok (.istore_n 2, 1) := by decide +kernel
theorem zd_XScene_moveTo_12 : decode zb_XScene_moveTo 12 = .ok (.iload_n 2, 1) := by decide +kernel
theorem zd_XScene_moveTo_13 : decode zb_XScene_moveTo 13 = .ok (.aload_n 0, 1) := by decide +kernel
theorem zd_XScene_moveTo_14 : decode zb_XScene_moveTo 14 = .ok (.getfield 9, 3) := by decide +kernel
theorem zd_XScene_moveTo_17 : decode zb_XScene_moveTo 17 = .ok (.iconst 4, 1) := by decide +kernel
theorem zd_XScene_moveTo_18 : decode zb_XScene_moveTo 18 = .ok (.iaload, 1) := by decide +kernel
theorem zd_XScene_moveTo_19 : decode zb_XScene_moveTo 19 = .ok (.if_icmp .ge 36, 3) := by decide +kernel
theorem zd_XScene_moveTo_22 : decode zb_XScene_moveTo 22 = .ok (.aload_n 0, 1) := by decide +kernel
theorem zd_XScene_moveTo_23 : decode zb_XScene_moveTo 23 = .ok (.getfield 43, 3) := by decide +kernel
theorem zd_XScene_moveTo_26 : decode zb_XScene_moveTo 26 = .ok (.iload_n 2, 1) := by decide +kernel
theorem zd_XScene_moveTo_27 : decode zb_XScene_moveTo 27 = .ok (.aaload, 1) := by decide +kernel
theorem zd_XScene_moveTo_28 : decode zb_XScene_moveTo 28 = .ok (.iload_n 1, 1) := by decide +kernel
theorem zd_XScene_moveTo_29 : decode zb_XScene_moveTo 29 = .ok (.aload_n 0, 1) := by decide +kernel
theorem zd_XScene_moveTo_30 : decode zb_XScene_moveTo 30 = .ok (.getfield 37, 3) := by decide +kernel
theorem zd_XScene_moveTo_33 : decode zb_XScene_moveTo 33 = .ok (.aload_n 0, 1) := by decide +kernel
theorem zd_XScene_moveTo_34 : decode zb_XScene_moveTo 34 = .ok (.getfield 43, 3) := by decide +kernel
theorem zd_XScene_moveTo_37 : decode zb_XScene_moveTo 37 = .ok (.iload_n 2, 1) := by decide +kernel
theorem zd_XScene_moveTo_38 : decode zb_XScene_moveTo 38 = .ok (.aaload, 1) := by decide +kernel
theorem zd_XScene_moveTo_39 : decode zb_XScene_moveTo 39 = .ok (.getfield 72, 3) := by decide +kernel
theorem zd_XScene_moveTo_42 : decode zb_XScene_moveTo 42 = .ok (.aaload, 1) := by decide +kernel
theorem zd_XScene_moveTo_43 : decode zb_XScene_moveTo 43 = .ok (.getfield 75, 3) := by decide +kernel
theorem zd_XScene_moveTo_46 : decode zb_XScene_moveTo 46 = .ok (.invokevirtual 78, 3) := by decide +kernel
theorem zd_XScene_moveTo_49 : decode zb_XScene_moveTo 49 = .ok (.iinc 2 1, 3) := by decide +kernel
theorem zd_XScene_moveTo_52 : decode zb_XScene_moveTo 52 = .ok (.goto (-40), 3) := by decide +kernel
theorem zd_XScene_moveTo_55 : decode zb_XScene_moveTo 55 = .ok (.return_, 1) := by decide +kernel
set_option maxHeartbeats 4000000 in
set_option maxRecDepth 100000 in
theorem e_XScene_moveTo (l : Launch) (D : va_G) (tA : Nat → ClassId) (b : Nat) (f : zV) (n : Nat) (t : Int32) (gc : Nat → Int32) (hs : f 11 = some (.inr (8, zsO b 12 0 0))) (hc : f 12 = some (.inl (tA 0, 5, .inl (gc)))) (k4 : gc (4 : Int32).toNatClampNeg = 0) : zM l D tA b zy_XScene_moveTo zb_XScene_moveTo 3 none 0 0 0 0 [.ref (b + 11), .int t] f n (zE none (zu (f) 11 (.inr (8, [.ref (b + 12), .ref (b + (12 + 1)), .ref (b + (12 + 2)), .ref (b + (12 + 19)), .ref (b + (12 + 20)), .ref (b + (12 + 21)), .ref (b + (12 + 22)), .ref (b + (12 + 23)), .int t, .int 0, .ref (b + (12 + 24))]))) n) := by
  refine zM_of (own := "OrreryBox$Scene") (plainFor_of_name (by decide)) rfl (Nat.le_of_ble_eq_true rfl) (fun p e s m below meth c F hr hin hH => ?_)
  refine zr_aload_n F zd_XScene_moveTo_0 rfl ?_
  refine zr_iload_n F zd_XScene_moveTo_1 rfl ?_
  refine zr_put F 8 8 zd_XScene_moveTo_2 hs rfl (by decide) zw_309 rfl rfl rfl rfl (by exact (Nat.le_of_ble_eq_true rfl)) ?_
  refine zr_norm (zu (f) 11 (.inr (8, [.ref (b + 12), .ref (b + (12 + 1)), .ref (b + (12 + 2)), .ref (b + (12 + 19)), .ref (b + (12 + 20)), .ref (b + (12 + 21)), .ref (b + (12 + 22)), .ref (b + (12 + 23)), .int t, .int 0, .ref (b + (12 + 24))]))) _ (rfl) rfl ?_
  refine zr_aload_n F zd_XScene_moveTo_5 rfl ?_
  refine zr_iconstv (v := 0) F zd_XScene_moveTo_6 (by decide) ?_
  refine zr_put F 8 9 zd_XScene_moveTo_7 (zu_s _ _ _) rfl (by decide) zw_311 rfl rfl rfl rfl (by exact (Nat.le_of_ble_eq_true rfl)) ?_
  refine zr_norm (zu (f) 11 (.inr (8, [.ref (b + 12), .ref (b + (12 + 1)), .ref (b + (12 + 2)), .ref (b + (12 + 19)), .ref (b + (12 + 20)), .ref (b + (12 + 21)), .ref (b + (12 + 22)), .ref (b + (12 + 23)), .int t, .int 0, .ref (b + (12 + 24))]))) _ (zu_zu _ _ _ _) rfl ?_
  refine zr_iconstv (v := 0) F zd_XScene_moveTo_10 (by decide) ?_
  refine zr_istore_n F zd_XScene_moveTo_11 (by decide) ?_
  refine zr_iload_n F zd_XScene_moveTo_12 rfl ?_
  refine zr_aload_n F zd_XScene_moveTo_13 rfl ?_
  refine zr_get F 8 0 zd_XScene_moveTo_14 (zu_s _ _ _) rfl (by decide) zw_281 rfl (by rfl) ?_
  refine zr_iconstv (v := 4) F zd_XScene_moveTo_17 (by decide) ?_
  refine zr_iald F zd_XScene_moveTo_18 ((zu_n _ (by omega)).trans hc) (zx_in (by decide)) ?_
  refine zr_toi (v' := 0) k4 ?_
  refine zr_icmp_ge F 55 zd_XScene_moveTo_19 (by decide) (fun _ => ?_) (fun h => absurd h (by decide))
  exact zr_vret F hr zd_XScene_moveTo_55 (Nat.le_of_ble_eq_true rfl) (Nat.le_of_ble_eq_true rfl) ⟨rfl, rfl, rfl⟩
abbrev zb_OB_time : ByteArray := prog_1_method_7_code
def zy_OB_time : MethodName := ⟨"OrreryBox", "time", "(I)Z"⟩
theorem zc_OB_time : Cond.code zy_OB_time zb_OB_time 2 (some .boolean) ∈ gw := gw_t 551 (by decide +kernel) rfl
theorem zq_OB_time : zy_OB_time.cls ≠ "java/lang/invoke/MethodHandle" ∧ zy_OB_time.cls ≠ "java/lang/invoke/VarHandle" ∧ (parseMethodDescriptor zy_OB_time.desc).map (fun d => d.parameters.length) = some 1 := by decide +kernel
theorem zd_OB_time_0 : decode zb_OB_time 0 = .ok (.iload_n 1, 1) := by decide +kernel
theorem zd_OB_time_1 : decode zb_OB_time 1 = .ok (.iconst 0, 1) := by decide +kernel
theorem zd_OB_time_2 : decode zb_OB_time 2 = .ok (.ldc 101, 2) := by decide +kernel
theorem zd_OB_time_4 : decode zb_OB_time 4 = .ok (.invokestatic 97, 3) := by decide +kernel
theorem zd_OB_time_7 : decode zb_OB_time 7 = .ok (.ifCond .ne 5, 3) := by decide +kernel
theorem zd_OB_time_10 : decode zb_OB_time 10 = .ok (.iconst 0, 1) := by decide +kernel
theorem zd_OB_time_11 : decode zb_OB_time 11 = .ok (.ireturn, 1) := by decide +kernel
theorem zd_OB_time_12 : decode zb_OB_time 12 = .ok (.aload_n 0, 1) := by decide +kernel
theorem zd_OB_time_13 : decode zb_OB_time 13 = .ok (.getfield 49, 3) := by decide +kernel
theorem zd_OB_time_16 : decode zb_OB_time 16 = .ok (.iload_n 1, 1) := by decide +kernel
theorem zd_OB_time_17 : decode zb_OB_time 17 = .ok (.invokevirtual 102, 3) := by decide +kernel
theorem zd_OB_time_20 : decode zb_OB_time 20 = .ok (.iconst 1, 1) := by decide +kernel
theorem zd_OB_time_21 : decode zb_OB_time 21 = .ok (.ireturn, 1) := by decide +kernel
theorem zw_552 : (Jvm.Cond.constant "OrreryBox" (101 : Nat) (1000000 : Int32)) ∈ gw := gw_t 552 (by decide +kernel) rfl
theorem zw_553 : (Jvm.Cond.methodLink "OrreryBox" (102 : Nat) ({ cls := "OrreryBox$Scene", name := "moveTo", desc := "(I)V" } : Jvm.MethodName)) ∈ gw := gw_t 553 (by decide +kernel) rfl
theorem zw_554 : (Jvm.Cond.instanceMethod ({ cls := "OrreryBox$Scene", name := "moveTo", desc := "(I)V" } : Jvm.MethodName)) ∈ gw := gw_t 554 (by decide +kernel) rfl
theorem zw_555 : (Jvm.Cond.selects "OrreryBox$Scene" ({ cls := "OrreryBox$Scene", name := "moveTo", desc := "(I)V" } : Jvm.MethodName) ({ cls := "OrreryBox$Scene", name := "moveTo", desc := "(I)V" } : Jvm.MethodName)) ∈ gw := gw_t 555 (by decide +kernel) rfl
theorem zs_OB_102 : zwV "OrreryBox" 102 "OrreryBox$Scene" zy_XScene_moveTo zb_XScene_moveTo 3 none := ⟨zw_553, zw_554, zw_555, zw_5, zc_XScene_moveTo⟩
def sp_e_OB_time (t : Int32) (w : Int32) (h : Int32) (gc : Nat → Int32) : Int32 := (if (sp_OB_within t 0 1000000) = 0 then 0 else 1)
def sw_e_OB_time (tA : Nat → ClassId) (b : Nat) (f : zV) (t : Int32) (w : Int32) (h : Int32) (gc : Nat → Int32) : zV := (if (sp_OB_within t 0 1000000) = 0 then (f) else (zu (f) 11 (.inr (8, [.ref (b + 12), .ref (b + (12 + 1)), .ref (b + (12 + 2)), .ref (b + (12 + 19)), .ref (b + (12 + 20)), .ref (b + (12 + 21)), .ref (b + (12 + 22)), .ref (b + (12 + 23)), .int t, .int 0, .ref (b + (12 + 24))]))))
theorem swn_e_OB_time {tA : Nat → ClassId} {b : Nat} {f : zV} {t : Int32} {w : Int32} {h : Int32} {gc : Nat → Int32} {ka : Nat} (h0 : ka ≠ 11) : sw_e_OB_time tA b f t w h gc ka = f ka := by
  unfold sw_e_OB_time
  repeat' split
  all_goals first | rfl | simp only [zu_n _ h0]
set_option maxHeartbeats 4000000 in
set_option maxRecDepth 100000 in
theorem e_OB_time (l : Launch) (D : va_G) (tA : Nat → ClassId) (b : Nat) (f : zV) (n : Nat) (t : Int32) (w : Int32) (h : Int32) (gc : Nat → Int32) (h0 : f 0 = some (.inr (0, [.int w, .int h, .ref (b + 1), .int 0, .ref (b + 2), .ref (b + 11), .ref (b + 3), .ref (b + 1121), .ref (b + 1178), .ref (b + 5), .int 0, .int (-1)]))) (hs : f 11 = some (.inr (8, zsO b 12 0 0))) (hc : f 12 = some (.inl (tA 0, 5, .inl (gc)))) (k4 : gc (4 : Int32).toNatClampNeg = 0) : zM l D tA b zy_OB_time zb_OB_time 2 (some .boolean) 1 22 0 0 [.ref (b + 0), .int t] f n (zE (some (.int (sp_e_OB_time t w h gc))) (sw_e_OB_time tA b f t w h gc) n) := by
  refine zM_of (own := "OrreryBox") (plainFor_of_name (by decide)) rfl (Nat.le_of_ble_eq_true rfl) (fun p e s m below meth c F hr hin hH => ?_)
  refine zr_iload_n F zd_OB_time_0 rfl ?_
  refine zr_iconstv (v := 0) F zd_OB_time_1 (by decide) ?_
  refine zr_ldc F zd_OB_time_2 zw_552 ?_
  refine zr_callS1 F (c_OB_within l D tA b _ _ t 0 1000000  ) zd_OB_time_4 zs_OB_97 zq_OB_within rfl rfl ⟨(Nat.le_of_ble_eq_true rfl), (Nat.le_of_ble_eq_true rfl)⟩ (Nat.le_of_ble_eq_true rfl) ⟨(Nat.le_of_ble_eq_true rfl), (Nat.le_of_ble_eq_true rfl)⟩ ?_
  refine zr_if_ne F 12 zd_OB_time_7 (by decide) (fun h1 => ?_) (fun h1 => ?_)
  ·
    refine zr_aload_n F zd_OB_time_12 rfl ?_
    refine zr_get F 0 5 zd_OB_time_13 h0 rfl (by decide) zw_493 rfl (by rfl) ?_
    refine zr_iload_n F zd_OB_time_16 rfl ?_
    refine zr_callV0 F (e_XScene_moveTo l D tA b _ _ t gc hs hc k4) zd_OB_time_17 hs rfl zs_OB_102 rfl zq_XScene_moveTo rfl rfl ⟨(Nat.le_of_ble_eq_true rfl), (Nat.le_of_ble_eq_true rfl)⟩ (Nat.le_of_ble_eq_true rfl) ⟨(Nat.le_of_ble_eq_true rfl), (Nat.le_of_ble_eq_true rfl)⟩ ?_
    refine zr_norm (zu (f) 11 (.inr (8, [.ref (b + 12), .ref (b + (12 + 1)), .ref (b + (12 + 2)), .ref (b + (12 + 19)), .ref (b + (12 + 20)), .ref (b + (12 + 21)), .ref (b + (12 + 22)), .ref (b + (12 + 23)), .int t, .int 0, .ref (b + (12 + 24))]))) _ (rfl) rfl ?_
    refine zr_iconstv (v := 1) F zd_OB_time_20 (by decide) ?_
    exact zr_zret F hr rfl zd_OB_time_21 (Nat.le_of_ble_eq_true rfl) (Nat.le_of_ble_eq_true rfl) ⟨by rw [sp_e_OB_time, if_neg h1], by rw [sw_e_OB_time, if_neg h1], rfl⟩
  ·
    refine zr_iconstv (v := 0) F zd_OB_time_10 (by decide) ?_
    exact zr_zret F hr rfl zd_OB_time_11 (Nat.le_of_ble_eq_true rfl) (Nat.le_of_ble_eq_true rfl) ⟨by rw [sp_e_OB_time, if_pos h1], by rw [sw_e_OB_time, if_pos h1], rfl⟩
set_option maxHeartbeats 4000000 in
set_option maxRecDepth 100000 in
theorem e_XScene_hasNode (l : Launch) (D : va_G) (tA : Nat → ClassId) (b : Nat) (f : zV) (n : Nat) (k : Int32) (gc : Nat → Int32) (hs : f 11 = some (.inr (8, zsO b 12 0 0))) (hc : f 12 = some (.inl (tA 0, 5, .inl (gc)))) (k3 : gc (3 : Int32).toNatClampNeg = 0) : zM l D tA b zy_XScene_hasNode zb_XScene_hasNode 2 (some .boolean) 0 0 0 0 [.ref (b + 11), .int k] f n (zE (some (.int 0)) f n) := by
  refine zM_of (own := "OrreryBox$Scene") (plainFor_of_name (by decide)) rfl (Nat.le_of_ble_eq_true rfl) (fun p e s m below meth c F hr hin hH => ?_)
  refine zr_iload_n F zd_XScene_hasNode_0 rfl ?_
  refine zr_if_lt F 18 zd_XScene_hasNode_1 (by decide) (fun h1 => ?_) (fun h1 => ?_)
  ·
    refine zr_iconstv (v := 0) F zd_XScene_hasNode_18 (by decide) ?_
    exact zr_zret F hr rfl zd_XScene_hasNode_19 (Nat.le_of_ble_eq_true rfl) (Nat.le_of_ble_eq_true rfl) ⟨rfl, rfl, rfl⟩
  ·
    refine zr_iload_n F zd_XScene_hasNode_4 rfl ?_
    refine zr_aload_n F zd_XScene_hasNode_5 rfl ?_
    refine zr_get F 8 0 zd_XScene_hasNode_6 hs rfl (by decide) zw_281 rfl (by rfl) ?_
    refine zr_iconstv (v := 3) F zd_XScene_hasNode_9 (by decide) ?_
    refine zr_iald F zd_XScene_hasNode_10 hc (zx_in (by decide)) ?_
    refine zr_toi (v' := 0) k3 ?_
    refine zr_icmp_ge F 18 zd_XScene_hasNode_11 (by decide) (fun _ => ?_) (fun h => absurd h (zx_nn h1))
    refine zr_iconstv (v := 0) F zd_XScene_hasNode_18 (by decide) ?_
    exact zr_zret F hr rfl zd_XScene_hasNode_19 (Nat.le_of_ble_eq_true rfl) (Nat.le_of_ble_eq_true rfl) ⟨rfl, rfl, rfl⟩
abbrev zb_OB_set : ByteArray := prog_1_method_8_code
def zy_OB_set : MethodName := ⟨"OrreryBox", "set", "(IIIII)Z"⟩
theorem zc_OB_set : Cond.code zy_OB_set zb_OB_set 7 (some .boolean) ∈ gw := gw_t 585 (by decide +kernel) rfl
theorem zq_OB_set : zy_OB_set.cls ≠ "java/lang/invoke/MethodHandle" ∧ zy_OB_set.cls ≠ "java/lang/invoke/VarHandle" ∧ (parseMethodDescriptor zy_OB_set.desc).map (fun d => d.parameters.length) = some 5 := by decide +kernel
theorem zd_OB_set_0 : decode zb_OB_set 0 = .ok (.aload_n 0, 1) := by decide +kernel
theorem zd_OB_set_1 : decode zb_OB_set 1 = .ok (.getfield 49, 3) := by decide +kernel
theorem zd_OB_set_4 : decode zb_OB_set 4 = .ok (.iload_n 1, 1) := by decide +kernel
theorem zd_OB_set_5 : decode zb_OB_set 5 = .ok (.invokevirtual 105, 3) := by decide +kernel
theorem zd_OB_set_8 : decode zb_OB_set 8 = .ok (.ifCond .eq 27, 3) := by decide +kernel
theorem zd_OB_set_11 : decode zb_OB_set 11 = .ok (.iload_n 2, 1) := by decide +kernel
theorem zd_OB_set_12 : decode zb_OB_set 12 = .ok (.iconst 0, 1) := by decide +kernel
theorem zd_OB_set_13 : decode zb_OB_set 13 = .ok (.iconst 2, 1) := by decide +kernel
theorem zd_OB_set_14 : decode zb_OB_set 14 = .ok (.invokestatic 97, 3) := by decide +kernel
theorem zd_OB_set_17 : decode zb_OB_set 17 = .ok (.ifCond .eq 18, 3) := by decide +kernel
theorem zd_OB_set_20 : decode zb_OB_set 20 = .ok (.iload_n 3, 1) := by decide +kernel
theorem zd_OB_set_21 : decode zb_OB_set 21 = .ok (.iload 4, 2) := by decide +kernel
theorem zd_OB_set_23 : decode zb_OB_set 23 = .ok (.iload 5, 2) := by decide +kernel
theorem zd_OB_set_25 : decode zb_OB_set 25 = .ok (.iload_n 2, 1) := by decide +kernel
theorem zd_OB_set_26 : decode zb_OB_set 26 = .ok (.invokestatic 109, 3) := by decide +kernel
theorem zd_OB_set_29 : decode zb_OB_set 29 = .ok (.invokestatic 113, 3) := by decide +kernel
theorem zd_OB_set_32 : decode zb_OB_set 32 = .ok (.ifCond .ne 5, 3) := by decide +kernel
theorem zd_OB_set_35 : decode zb_OB_set 35 = .ok (.iconst 0, 1) := by decide +kernel
theorem zd_OB_set_36 : decode zb_OB_set 36 = .ok (.ireturn, 1) := by decide +kernel
theorem zd_OB_set_37 : decode zb_OB_set 37 = .ok (.aload_n 0, 1) := by decide +kernel
theorem zd_OB_set_38 : decode zb_OB_set 38 = .ok (.getfield 49, 3) := by decide +kernel
theorem zd_OB_set_41 : decode zb_OB_set 41 = .ok (.getfield 117, 3) := by decide +kernel
theorem zd_OB_set_44 : decode zb_OB_set 44 = .ok (.iload_n 1, 1) := by decide +kernel
theorem zd_OB_set_45 : decode zb_OB_set 45 = .ok (.aaload, 1) := by decide +kernel
theorem zd_OB_set_46 : decode zb_OB_set 46 = .ok (.getfield 121, 3) := by decide +kernel
theorem zd_OB_set_49 : decode zb_OB_set 49 = .ok (.astore 6, 2) := by decide +kernel
theorem zd_OB_set_51 : decode zb_OB_set 51 = .ok (.aload 6, 2) := by decide +kernel
theorem zd_OB_set_53 : decode zb_OB_set 53 = .ok (.iconst 3, 1) := by decide +kernel
theorem zd_OB_set_54 : decode zb_OB_set 54 = .ok (.iload_n 2, 1) := by decide +kernel
theorem zd_OB_set_55 : decode zb_OB_set 55 = .ok (.imul, 1) := by decide +kernel
theorem zd_OB_set_56 : decode zb_OB_set 56 = .ok (.iload_n 3, 1) := by decide +kernel
theorem zd_OB_set_57 : decode zb_OB_set 57 = .ok (.iastore, 1) := by decide +kernel
theorem zd_OB_set_58 : decode zb_OB_set 58 = .ok (.aload 6, 2) := by decide +kernel
theorem zd_OB_set_60 : decode zb_OB_set 60 = .ok (.iconst 3, 1) := by decide +kernel
theorem zd_OB_set_61 : decode zb_OB_set 61 = .ok (.iload_n 2, 1) := by decide +kernel
theorem zd_OB_set_62 : decode zb_OB_set 62 = .ok (.imul, 1) := by decide +kernel
theorem zd_OB_set_63 : decode zb_OB_set 63 = .ok (.iconst 1, 1) := by decide +kernel
theorem zd_OB_set_64 : decode zb_OB_set 64 = .ok (.iadd, 1) := by decide +kernel
theorem zd_OB_set_65 : decode zb_OB_set 65 = .ok (.iload 4, 2) := by decide +kernel
theorem zd_OB_set_67 : decode zb_OB_set 67 = .ok (.iastore, 1) := by decide +kernel
theorem zd_OB_set_68 : decode zb_OB_set 68 = .ok (.aload 6, 2) := by decide +kernel
theorem zd_OB_set_70 : decode zb_OB_set 70 = .ok (.iconst 3, 1) := by decide +kernel
theorem zd_OB_set_71 : decode zb_OB_set 71 = .ok (.iload_n 2, 1) := by decide +kernel
theorem zd_OB_set_72 : decode zb_OB_set 72 = .ok (.imul, 1) := by decide +kernel
theorem zd_OB_set_73 : decode zb_OB_set 73 = .ok (.iconst 2, 1) := by decide +kernel
theorem zd_OB_set_74 : decode zb_OB_set 74 = .ok (.iadd, 1) := by decide +kernel
theorem zd_OB_set_75 : decode zb_OB_set 75 = .ok (.iload 5, 2) := by decide +kernel
theorem zd_OB_set_77 : decode zb_OB_set 77 = .ok (.iastore, 1) := by decide +kernel
theorem zd_OB_set_78 : decode zb_OB_set 78 = .ok (.aload_n 0, 1) := by decide +kernel
theorem zd_OB_set_79 : decode zb_OB_set 79 = .ok (.getfield 49, 3) := by decide +kernel
theorem zd_OB_set_82 : decode zb_OB_set 82 = .ok (.iconst 0, 1) := by decide +kernel
theorem zd_OB_set_83 : decode zb_OB_set 83 = .ok (.putfield 126, 3) := by decide +kernel
theorem zd_OB_set_86 : decode zb_OB_set 86 = .ok (.iconst 1, 1) := by decide +kernel
theorem zd_OB_set_87 : decode zb_OB_set 87 = .ok (.ireturn, 1) := by decide +kernel
theorem zw_586 : (Jvm.Cond.methodLink "OrreryBox" (105 : Nat) ({ cls := "OrreryBox$Scene", name := "hasNode", desc := "(I)Z" } : Jvm.MethodName)) ∈ gw := gw_t 586 (by decide +kernel) rfl
theorem zw_587 : (Jvm.Cond.instanceMethod ({ cls := "OrreryBox$Scene", name := "hasNode", desc := "(I)Z" } : Jvm.MethodName)) ∈ gw := gw_t 587 (by decide +kernel) rfl
theorem zw_588 : (Jvm.Cond.selects "OrreryBox$Scene" ({ cls := "OrreryBox$Scene", name := "hasNode", desc := "(I)Z" } : Jvm.MethodName) ({ cls := "OrreryBox$Scene", name := "hasNode", desc := "(I)Z" } : Jvm.MethodName)) ∈ gw := gw_t 588 (by decide +kernel) rfl
theorem zs_OB_105 : zwV "OrreryBox" 105 "OrreryBox$Scene" zy_XScene_hasNode zb_XScene_hasNode 2 (some .boolean) := ⟨zw_586, zw_587, zw_588, zw_5, zc_XScene_hasNode⟩
set_option maxHeartbeats 4000000 in
set_option maxRecDepth 100000 in
theorem e_OB_set (l : Launch) (D : va_G) (tA : Nat → ClassId) (b : Nat) (f : zV) (n : Nat) (k : Int32) (what : Int32) (x : Int32) (y : Int32) (z : Int32) (w : Int32) (h : Int32) (gc : Nat → Int32) (h0 : f 0 = some (.inr (0, [.int w, .int h, .ref (b + 1), .int 0, .ref (b + 2), .ref (b + 11), .ref (b + 3), .ref (b + 1121), .ref (b + 1178), .ref (b + 5), .int 0, .int (-1)]))) (hs : f 11 = some (.inr (8, zsO b 12 0 0))) (hc : f 12 = some (.inl (tA 0, 5, .inl (gc)))) (k3 : gc (3 : Int32).toNatClampNeg = 0) : zM l D tA b zy_OB_set zb_OB_set 7 (some .boolean) 1 21 0 0 [.ref (b + 0), .int k, .int what, .int x, .int y, .int z] f n (zE (some (.int 0)) f n) := by
  refine zM_of (own := "OrreryBox") (plainFor_of_name (by decide)) rfl (Nat.le_of_ble_eq_true rfl) (fun p e s m below meth c F hr hin hH => ?_)
  refine zr_aload_n F zd_OB_set_0 rfl ?_
  refine zr_get F 0 5 zd_OB_set_1 h0 rfl (by decide) zw_493 rfl (by rfl) ?_
  refine zr_iload_n F zd_OB_set_4 rfl ?_
  refine zr_callV1 F (e_XScene_hasNode l D tA b _ _ k gc hs hc k3) zd_OB_set_5 hs rfl zs_OB_105 rfl zq_XScene_hasNode rfl rfl ⟨(Nat.le_of_ble_eq_true rfl), (Nat.le_of_ble_eq_true rfl)⟩ (Nat.le_of_ble_eq_true rfl) ⟨(Nat.le_of_ble_eq_true rfl), (Nat.le_of_ble_eq_true rfl)⟩ ?_
  refine zr_if_eq F 35 zd_OB_set_8 (by decide) (fun _ => ?_) (fun h => absurd h (by decide))
  refine zr_iconstv (v := 0) F zd_OB_set_35 (by decide) ?_
  exact zr_zret F hr rfl zd_OB_set_36 (Nat.le_of_ble_eq_true rfl) (Nat.le_of_ble_eq_true rfl) ⟨rfl, rfl, rfl⟩
abbrev zb_OB_hang : ByteArray := prog_1_method_9_code
def zy_OB_hang : MethodName := ⟨"OrreryBox", "hang", "(II)Z"⟩
theorem zc_OB_hang : Cond.code zy_OB_hang zb_OB_hang 3 (some .boolean) ∈ gw := gw_t 601 (by decide +kernel) rfl
theorem zq_OB_hang : zy_OB_hang.cls ≠ "java/lang/invoke/MethodHandle" ∧ zy_OB_hang.cls ≠ "java/lang/invoke/VarHandle" ∧ (parseMethodDescriptor zy_OB_hang.desc).map (fun d => d.parameters.length) = some 2 := by decide +kernel
theorem zd_OB_hang_0 : decode zb_OB_hang 0 = .ok (.aload_n 0, 1) := by decide +kernel
theorem zd_OB_hang_1 : decode zb_OB_hang 1 = .ok (.getfield 49, 3) := by decide +kernel
theorem zd_OB_hang_4 : decode zb_OB_hang 4 = .ok (.iload_n 1, 1) := by decide +kernel
theorem zd_OB_hang_5 : decode zb_OB_hang 5 = .ok (.invokevirtual 105, 3) := by decide +kernel
theorem zd_OB_hang_8 : decode zb_OB_hang 8 = .ok (.ifCond .eq 14, 3) := by decide +kernel
theorem zd_OB_hang_11 : decode zb_OB_hang 11 = .ok (.iload_n 2, 1) := by decide +kernel
theorem zd_OB_hang_12 : decode zb_OB_hang 12 = .ok (.iconst (-1), 1) := by decide +kernel
theorem zd_OB_hang_13 : decode zb_OB_hang 13 = .ok (.iload_n 1, 1) := by decide +kernel
theorem zd_OB_hang_14 : decode zb_OB_hang 14 = .ok (.iconst 1, 1) := by decide +kernel
theorem zd_OB_hang_15 : decode zb_OB_hang 15 = .ok (.isub, 1) := by decide +kernel
theorem zd_OB_hang_16 : decode zb_OB_hang 16 = .ok (.invokestatic 97, 3) := by decide +kernel
theorem zd_OB_hang_19 : decode zb_OB_hang 19 = .ok (.ifCond .ne 5, 3) := by decide +kernel
theorem zd_OB_hang_22 : decode zb_OB_hang 22 = .ok (.iconst 0, 1) := by decide +kernel
theorem zd_OB_hang_23 : decode zb_OB_hang 23 = .ok (.ireturn, 1) := by decide +kernel
theorem zd_OB_hang_24 : decode zb_OB_hang 24 = .ok (.aload_n 0, 1) := by decide +kernel
theorem zd_OB_hang_25 : decode zb_OB_hang 25 = .ok (.getfield 49, 3) := by decide +kernel
theorem zd_OB_hang_28 : decode zb_OB_hang 28 = .ok (.getfield 117, 3) := by decide +kernel
theorem zd_OB_hang_31 : decode zb_OB_hang 31 = .ok (.iload_n 1, 1) := by decide +kernel
theorem zd_OB_hang_32 : decode zb_OB_hang 32 = .ok (.aaload, 1) := by decide +kernel
theorem zd_OB_hang_33 : decode zb_OB_hang 33 = .ok (.iload_n 2, 1) := by decide +kernel
theorem zd_OB_hang_34 : decode zb_OB_hang 34 = .ok (.putfield 130, 3) := by decide +kernel
theorem zd_OB_hang_37 : decode zb_OB_hang 37 = .ok (.aload_n 0, 1) := by decide +kernel
theorem zd_OB_hang_38 : decode zb_OB_hang 38 = .ok (.getfield 49, 3) := by decide +kernel
theorem zd_OB_hang_41 : decode zb_OB_hang 41 = .ok (.iconst 0, 1) := by decide +kernel
theorem zd_OB_hang_42 : decode zb_OB_hang 42 = .ok (.putfield 126, 3) := by decide +kernel
theorem zd_OB_hang_45 : decode zb_OB_hang 45 = .ok (.iconst 1, 1) := by decide +kernel
theorem zd_OB_hang_46 : decode zb_OB_hang 46 = .ok (.ireturn, 1) := by decide +kernel
set_option maxHeartbeats 4000000 in
set_option maxRecDepth 100000 in
theorem e_OB_hang (l : Launch) (D : va_G) (tA : Nat → ClassId) (b : Nat) (f : zV) (n : Nat) (k : Int32) (x : Int32) (w : Int32) (h : Int32) (gc : Nat → Int32) (h0 : f 0 = some (.inr (0, [.int w, .int h, .ref (b + 1), .int 0, .ref (b + 2), .ref (b + 11), .ref (b + 3), .ref (b + 1121), .ref (b + 1178), .ref (b + 5), .int 0, .int (-1)]))) (hs : f 11 = some (.inr (8, zsO b 12 0 0))) (hc : f 12 = some (.inl (tA 0, 5, .inl (gc)))) (k3 : gc (3 : Int32).toNatClampNeg = 0) : zM l D tA b zy_OB_hang zb_OB_hang 3 (some .boolean) 1 21 0 0 [.ref (b + 0), .int k, .int x] f n (zE (some (.int 0)) f n) := by
  refine zM_of (own := "OrreryBox") (plainFor_of_name (by decide)) rfl (Nat.le_of_ble_eq_true rfl) (fun p e s m below meth c F hr hin hH => ?_)
  refine zr_aload_n F zd_OB_hang_0 rfl ?_
  refine zr_get F 0 5 zd_OB_hang_1 h0 rfl (by decide) zw_493 rfl (by rfl) ?_
  refine zr_iload_n F zd_OB_hang_4 rfl ?_
  refine zr_callV1 F (e_XScene_hasNode l D tA b _ _ k gc hs hc k3) zd_OB_hang_5 hs rfl zs_OB_105 rfl zq_XScene_hasNode rfl rfl ⟨(Nat.le_of_ble_eq_true rfl), (Nat.le_of_ble_eq_true rfl)⟩ (Nat.le_of_ble_eq_true rfl) ⟨(Nat.le_of_ble_eq_true rfl), (Nat.le_of_ble_eq_true rfl)⟩ ?_
  refine zr_if_eq F 22 zd_OB_hang_8 (by decide) (fun _ => ?_) (fun h => absurd h (by decide))
  refine zr_iconstv (v := 0) F zd_OB_hang_22 (by decide) ?_
  exact zr_zret F hr rfl zd_OB_hang_23 (Nat.le_of_ble_eq_true rfl) (Nat.le_of_ble_eq_true rfl) ⟨rfl, rfl, rfl⟩
abbrev zb_OB_hide : ByteArray := prog_1_method_10_code
def zy_OB_hide : MethodName := ⟨"OrreryBox", "hide", "(IZ)Z"⟩
theorem zc_OB_hide : Cond.code zy_OB_hide zb_OB_hide 3 (some .boolean) ∈ gw := gw_t 605 (by decide +kernel) rfl
theorem zq_OB_hide : zy_OB_hide.cls ≠ "java/lang/invoke/MethodHandle" ∧ zy_OB_hide.cls ≠ "java/lang/invoke/VarHandle" ∧ (parseMethodDescriptor zy_OB_hide.desc).map (fun d => d.parameters.length) = some 2 := by decide +kernel
theorem zd_OB_hide_0 : decode zb_OB_hide 0 = .ok (.aload_n 0, 1) := by decide +kernel
theorem zd_OB_hide_1 : decode zb_OB_hide 1 = .ok (.getfield 49, 3) := by decide +kernel
theorem zd_OB_hide_4 : decode zb_OB_hide 4 = .ok (.iload_n 1, 1) := by decide +kernel
theorem zd_OB_hide_5 : decode zb_OB_hide 5 = .ok (.invokevirtual 105, 3) := by decide +kernel
theorem zd_OB_hide_8 : decode zb_OB_hide 8 = .ok (.ifCond .ne 5, 3) := by decide +kernel
theorem zd_OB_hide_11 : decode zb_OB_hide 11 = .ok (.iconst 0, 1) := by decide +kernel
theorem zd_OB_hide_12 : decode zb_OB_hide 12 = .ok (.ireturn, 1) := by decide +kernel
theorem zd_OB_hide_13 : decode zb_OB_hide 13 = .ok (.aload_n 0, 1) := by decide +kernel
theorem zd_OB_hide_14 : decode zb_OB_hide 14 = .ok (.getfield 49, 3) := by decide +kernel
theorem zd_OB_hide_17 : decode zb_OB_hide 17 = .ok (.getfield 117, 3) := by decide +kernel
theorem zd_OB_hide_20 : decode zb_OB_hide 20 = .ok (.iload_n 1, 1) := by decide +kernel
theorem zd_OB_hide_21 : decode zb_OB_hide 21 = .ok (.aaload, 1) := by decide +kernel
theorem zd_OB_hide_22 : decode zb_OB_hide 22 = .ok (.iload_n 2, 1) := by decide +kernel
theorem zd_OB_hide_23 : decode zb_OB_hide 23 = .ok (.putfield 133, 3) := by decide +kernel
theorem zd_OB_hide_26 : decode zb_OB_hide 26 = .ok (.aload_n 0, 1) := by decide +kernel
theorem zd_OB_hide_27 : decode zb_OB_hide 27 = .ok (.getfield 49, 3) := by decide +kernel
theorem zd_OB_hide_30 : decode zb_OB_hide 30 = .ok (.iconst 0, 1) := by decide +kernel
theorem zd_OB_hide_31 : decode zb_OB_hide 31 = .ok (.putfield 126, 3) := by decide +kernel
theorem zd_OB_hide_34 : decode zb_OB_hide 34 = .ok (.iconst 1, 1) := by decide +kernel
theorem zd_OB_hide_35 : decode zb_OB_hide 35 = .ok (.ireturn, 1) := by decide +kernel
set_option maxHeartbeats 4000000 in
set_option maxRecDepth 100000 in
theorem e_OB_hide (l : Launch) (D : va_G) (tA : Nat → ClassId) (b : Nat) (f : zV) (n : Nat) (k : Int32) (x : Int32) (w : Int32) (h : Int32) (gc : Nat → Int32) (h0 : f 0 = some (.inr (0, [.int w, .int h, .ref (b + 1), .int 0, .ref (b + 2), .ref (b + 11), .ref (b + 3), .ref (b + 1121), .ref (b + 1178), .ref (b + 5), .int 0, .int (-1)]))) (hs : f 11 = some (.inr (8, zsO b 12 0 0))) (hc : f 12 = some (.inl (tA 0, 5, .inl (gc)))) (k3 : gc (3 : Int32).toNatClampNeg = 0) : zM l D tA b zy_OB_hide zb_OB_hide 3 (some .boolean) 1 21 0 0 [.ref (b + 0), .int k, .int x] f n (zE (some (.int 0)) f n) := by
  refine zM_of (own := "OrreryBox") (plainFor_of_name (by decide)) rfl (Nat.le_of_ble_eq_true rfl) (fun p e s m below meth c F hr hin hH => ?_)
  refine zr_aload_n F zd_OB_hide_0 rfl ?_
  refine zr_get F 0 5 zd_OB_hide_1 h0 rfl (by decide) zw_493 rfl (by rfl) ?_
  refine zr_iload_n F zd_OB_hide_4 rfl ?_
  refine zr_callV1 F (e_XScene_hasNode l D tA b _ _ k gc hs hc k3) zd_OB_hide_5 hs rfl zs_OB_105 rfl zq_XScene_hasNode rfl rfl ⟨(Nat.le_of_ble_eq_true rfl), (Nat.le_of_ble_eq_true rfl)⟩ (Nat.le_of_ble_eq_true rfl) ⟨(Nat.le_of_ble_eq_true rfl), (Nat.le_of_ble_eq_true rfl)⟩ ?_
  refine zr_if_ne F 13 zd_OB_hide_8 (by decide) (fun h => absurd h (by decide)) (fun _ => ?_)
  refine zr_iconstv (v := 0) F zd_OB_hide_11 (by decide) ?_
  exact zr_zret F hr rfl zd_OB_hide_12 (Nat.le_of_ble_eq_true rfl) (Nat.le_of_ble_eq_true rfl) ⟨rfl, rfl, rfl⟩
abbrev zb_OB_world : ByteArray := prog_1_method_14_code
def zy_OB_world : MethodName := ⟨"OrreryBox", "world", "(III)I"⟩
theorem zc_OB_world : Cond.code zy_OB_world zb_OB_world 4 (some .int) ∈ gw := gw_t 1286 (by decide +kernel) rfl
theorem zq_OB_world : zy_OB_world.cls ≠ "java/lang/invoke/MethodHandle" ∧ zy_OB_world.cls ≠ "java/lang/invoke/VarHandle" ∧ (parseMethodDescriptor zy_OB_world.desc).map (fun d => d.parameters.length) = some 3 := by decide +kernel
theorem zd_OB_world_0 : decode zb_OB_world 0 = .ok (.aload_n 0, 1) := by decide +kernel
theorem zd_OB_world_1 : decode zb_OB_world 1 = .ok (.getfield 49, 3) := by decide +kernel
theorem zd_OB_world_4 : decode zb_OB_world 4 = .ok (.iload_n 1, 1) := by decide +kernel
theorem zd_OB_world_5 : decode zb_OB_world 5 = .ok (.invokevirtual 105, 3) := by decide +kernel
theorem zd_OB_world_8 : decode zb_OB_world 8 = .ok (.ifCond .eq 21, 3) := by decide +kernel
theorem zd_OB_world_11 : decode zb_OB_world 11 = .ok (.iload_n 2, 1) := by decide +kernel
theorem zd_OB_world_12 : decode zb_OB_world 12 = .ok (.iconst 0, 1) := by decide +kernel
theorem zd_OB_world_13 : decode zb_OB_world 13 = .ok (.iconst 2, 1) := by decide +kernel
theorem zd_OB_world_14 : decode zb_OB_world 14 = .ok (.invokestatic 97, 3) := by decide +kernel
theorem zd_OB_world_17 : decode zb_OB_world 17 = .ok (.ifCond .eq 12, 3) := by decide +kernel
theorem zd_OB_world_20 : decode zb_OB_world 20 = .ok (.iload_n 3, 1) := by decide +kernel
theorem zd_OB_world_21 : decode zb_OB_world 21 = .ok (.iconst 0, 1) := by decide +kernel
theorem zd_OB_world_22 : decode zb_OB_world 22 = .ok (.iconst 3, 1) := by decide +kernel
theorem zd_OB_world_23 : decode zb_OB_world 23 = .ok (.invokestatic 97, 3) := by decide +kernel
theorem zd_OB_world_26 : decode zb_OB_world 26 = .ok (.ifCond .ne 11, 3) := by decide +kernel
theorem zd_OB_world_29 : decode zb_OB_world 29 = .ok (.new 145, 3) := by decide +kernel
theorem zd_OB_world_32 : decode zb_OB_world 32 = .ok (.dup, 1) := by decide +kernel
theorem zd_OB_world_33 : decode zb_OB_world 33 = .ok (.invokespecial 147, 3) := by decide +kernel
theorem zd_OB_world_36 : decode zb_OB_world 36 = .ok (.athrow, 1) := by decide +kernel
theorem zd_OB_world_37 : decode zb_OB_world 37 = .ok (.aload_n 0, 1) := by decide +kernel
theorem zd_OB_world_38 : decode zb_OB_world 38 = .ok (.getfield 49, 3) := by decide +kernel
theorem zd_OB_world_41 : decode zb_OB_world 41 = .ok (.invokevirtual 148, 3) := by decide +kernel
theorem zd_OB_world_44 : decode zb_OB_world 44 = .ok (.aload_n 0, 1) := by decide +kernel
theorem zd_OB_world_45 : decode zb_OB_world 45 = .ok (.getfield 49, 3) := by decide +kernel
theorem zd_OB_world_48 : decode zb_OB_world 48 = .ok (.getfield 117, 3) := by decide +kernel
theorem zd_OB_world_51 : decode zb_OB_world 51 = .ok (.iload_n 1, 1) := by decide +kernel
theorem zd_OB_world_52 : decode zb_OB_world 52 = .ok (.aaload, 1) := by decide +kernel
theorem zd_OB_world_53 : decode zb_OB_world 53 = .ok (.getfield 151, 3) := by decide +kernel
theorem zd_OB_world_56 : decode zb_OB_world 56 = .ok (.iconst 4, 1) := by decide +kernel
theorem zd_OB_world_57 : decode zb_OB_world 57 = .ok (.iload_n 2, 1) := by decide +kernel
theorem zd_OB_world_58 : decode zb_OB_world 58 = .ok (.imul, 1) := by decide +kernel
theorem zd_OB_world_59 : decode zb_OB_world 59 = .ok (.iload_n 3, 1) := by decide +kernel
theorem zd_OB_world_60 : decode zb_OB_world 60 = .ok (.iadd, 1) := by decide +kernel
theorem zd_OB_world_61 : decode zb_OB_world 61 = .ok (.iaload, 1) := by decide +kernel
theorem zd_OB_world_62 : decode zb_OB_world 62 = .ok (.ireturn, 1) := by decide +kernel
theorem zw_1287 : (Jvm.Cond.classLink "OrreryBox" (145 : Nat) "java/util/NoSuchElementException") ∈ gw := gw_t 1287 (by decide +kernel) rfl
theorem zw_1288 : (Jvm.Cond.instantiable "java/util/NoSuchElementException" (6 : Nat)) ∈ gw := gw_t 1288 (by decide +kernel) rfl
theorem zw_28 : (Jvm.Cond.initialized "java/util/NoSuchElementException") ∈ gw := gw_t 28 (by decide +kernel) rfl
set_option maxHeartbeats 4000000 in
set_option maxRecDepth 100000 in
theorem e_OB_world (l : Launch) (D : va_G) (tA : Nat → ClassId) (b : Nat) (f : zV) (n : Nat) (k : Int32) (x : Int32) (y : Int32) (w : Int32) (h : Int32) (gc : Nat → Int32) (h0 : f 0 = some (.inr (0, [.int w, .int h, .ref (b + 1), .int 0, .ref (b + 2), .ref (b + 11), .ref (b + 3), .ref (b + 1121), .ref (b + 1178), .ref (b + 5), .int 0, .int (-1)]))) (hs : f 11 = some (.inr (8, zsO b 12 0 0))) (hc : f 12 = some (.inl (tA 0, 5, .inl (gc)))) (k3 : gc (3 : Int32).toNatClampNeg = 0) (hl : l.stackTraces = false) : zMT l D tA b zy_OB_world zb_OB_world 4 (some .int) 6 90 1 6 [.ref (b + 0), .int k, .int x, .int y] f n "java/util/NoSuchElementException" (f) (n + 1) := by
  refine zMT_of (own := "OrreryBox") (plainFor_of_name (by decide)) rfl (Nat.le_of_ble_eq_true rfl) (fun p e s m below meth c F hno hH => ?_)
  refine zr_aload_n F zd_OB_world_0 rfl ?_
  refine zr_get F 0 5 zd_OB_world_1 h0 rfl (by decide) zw_493 rfl (by rfl) ?_
  refine zr_iload_n F zd_OB_world_4 rfl ?_
  refine zr_callV1 F (e_XScene_hasNode l D tA b _ _ k gc hs hc k3) zd_OB_world_5 hs rfl zs_OB_105 rfl zq_XScene_hasNode rfl rfl ⟨(Nat.le_of_ble_eq_true rfl), (Nat.le_of_ble_eq_true rfl)⟩ (Nat.le_of_ble_eq_true rfl) ⟨(Nat.le_of_ble_eq_true rfl), (Nat.le_of_ble_eq_true rfl)⟩ ?_
  refine zr_if_eq F 29 zd_OB_world_8 (by decide) (fun _ => ?_) (fun h => absurd h (by decide))
  exact zr_throwNew (names := ["java/lang/RuntimeException", "java/lang/Exception"]) F hl hno zd_OB_world_29 zd_OB_world_32 zd_OB_world_33 zd_OB_world_36 (by decide) (by decide) (fun U hG hts => zat_NSE U hG hts) zw_1287 zw_1288 zw_28 (Nat.le_of_ble_eq_true rfl) (Nat.le_of_ble_eq_true rfl) (Nat.le_of_ble_eq_true rfl) (Nat.le_of_ble_eq_true rfl) (Nat.le_of_ble_eq_true rfl) (Nat.le_of_ble_eq_true rfl)
abbrev zb_XScene_placeNodes : ByteArray := prog_9_method_5_code
def zy_XScene_placeNodes : MethodName := ⟨"OrreryBox$Scene", "placeNodes", "()V"⟩
theorem zc_XScene_placeNodes : Cond.code zy_XScene_placeNodes zb_XScene_placeNodes 3 none ∈ gw := gw_t 625 (by decide +kernel) rfl
theorem zq_XScene_placeNodes : zy_XScene_placeNodes.cls ≠ "java/lang/invoke/MethodHandle" ∧ zy_XScene_placeNodes.cls ≠ "java/lang/invoke/VarHandle" ∧ (parseMethodDescriptor zy_XScene_placeNodes.desc).map (fun d => d.parameters.length) = some 0 := by decide +kernel
theorem zd_XScene_placeNodes_0 : decode zb_XScene_placeNodes 0 = .ok (.iconst 0, 1) := by decide +kernel
theorem zd_XScene_placeNodes_1 : decode zb_XScene_placeNodes 1 = .ok (.istore_n 1, 1) := by decide +kernel
theorem zd_XScene_placeNodes_2 : decode zb_XScene_placeNodes 2 = .ok (.iload_n 1, 1) := by decide +kernel
theorem zd_XScene_placeNodes_3 : decode zb_XScene_placeNodes 3 = .ok (.aload_n 0, 1) := by decide +kernel
theorem zd_XScene_placeNodes_4 : decode zb_XScene_placeNodes 4 = .ok (.getfield 9, 3) := by decide +kernel
theorem zd_XScene_placeNodes_7 : decode zb_XScene_placeNodes 7 = .ok (.iconst 3, 1) := by decide +kernel
theorem zd_XScene_placeNodes_8 : decode zb_XScene_placeNodes 8 = .ok (.iaload, 1) := by decide +kernel
theorem zd_XScene_placeNodes_9 : decode zb_XScene_placeNodes 9 = .ok (.if_icmp .ge 110, 3) := by decide +kernel
theorem zd_XScene_placeNodes_12 : decode zb_XScene_placeNodes 12 = .ok (.aload_n 0, 1) := by decide +kernel
theorem zd_XScene_placeNodes_13 : decode zb_XScene_placeNodes 13 = .ok (.getfield 68, 3) := by decide +kernel
theorem zd_XScene_placeNodes_16 : decode zb_XScene_placeNodes 16 = .ok (.ifCond .ne 103, 3) := by decide +kernel
theorem zd_XScene_placeNodes_19 : decode zb_XScene_placeNodes 19 = .ok (.aload_n 0, 1) := by decide +kernel
theorem zd_XScene_placeNodes_20 : decode zb_XScene_placeNodes 20 = .ok (.getfield 37, 3) := by decide +kernel
theorem zd_XScene_placeNodes_23 : decode zb_XScene_placeNodes 23 = .ok (.iload_n 1, 1) := by decide +kernel
theorem zd_XScene_placeNodes_24 : decode zb_XScene_placeNodes 24 = .ok (.aaload, 1) := by decide +kernel
theorem zd_XScene_placeNodes_25 : decode zb_XScene_placeNodes 25 = .ok (.astore_n 2, 1) := by decide +kernel
theorem zd_XScene_placeNodes_26 : decode zb_XScene_placeNodes 26 = .ok (.aload_n 2, 1) := by decide +kernel
theorem zd_XScene_placeNodes_27 : decode zb_XScene_placeNodes 27 = .ok (.aload_n 2, 1) := by decide +kernel
theorem zd_XScene_placeNodes_28 : decode zb_XScene_placeNodes 28 = .ok (.getfield 82, 3) := by decide +kernel
theorem zd_XScene_placeNodes_31 : decode zb_XScene_placeNodes 31 = .ok (.ifCond .ne 29, 3) := by decide +kernel
theorem zd_XScene_placeNodes_34 : decode zb_XScene_placeNodes 34 = .ok (.aload_n 2, 1) := by decide +kernel
theorem zd_XScene_placeNodes_35 : decode zb_XScene_placeNodes 35 = .ok (.getfield 85, 3) := by decide +kernel
theorem zd_XScene_placeNodes_38 : decode zb_XScene_placeNodes 38 = .ok (.ifCond .lt 18, 3) := by decide +kernel
theorem zd_XScene_placeNodes_41 : decode zb_XScene_placeNodes 41 = .ok (.aload_n 0, 1) := by decide +kernel
theorem zd_XScene_placeNodes_42 : decode zb_XScene_placeNodes 42 = .ok (.getfield 37, 3) := by decide +kernel
theorem zd_XScene_placeNodes_45 : decode zb_XScene_placeNodes 45 = .ok (.aload_n 2, 1) := by decide +kernel
theorem zd_XScene_placeNodes_46 : decode zb_XScene_placeNodes 46 = .ok (.getfield 85, 3) := by decide +kernel
theorem zd_XScene_placeNodes_49 : decode zb_XScene_placeNodes 49 = .ok (.aaload, 1) := by decide +kernel
theorem zd_XScene_placeNodes_50 : decode zb_XScene_placeNodes 50 = .ok (.getfield 88, 3) := by decide +kernel
theorem zd_XScene_placeNodes_53 : decode zb_XScene_placeNodes 53 = .ok (.ifCond .eq 7, 3) := by decide +kernel
theorem zd_XScene_placeNodes_56 : decode zb_XScene_placeNodes 56 = .ok (.iconst 1, 1) := by decide +kernel
theorem zd_XScene_placeNodes_57 : decode zb_XScene_placeNodes 57 = .ok (.goto 4, 3) := by decide +kernel
theorem zd_XScene_placeNodes_60 : decode zb_XScene_placeNodes 60 = .ok (.iconst 0, 1) := by decide +kernel
theorem zd_XScene_placeNodes_61 : decode zb_XScene_placeNodes 61 = .ok (.putfield 88, 3) := by decide +kernel
theorem zd_XScene_placeNodes_64 : decode zb_XScene_placeNodes 64 = .ok (.aload_n 2, 1) := by decide +kernel
theorem zd_XScene_placeNodes_65 : decode zb_XScene_placeNodes 65 = .ok (.getfield 85, 3) := by decide +kernel
theorem zd_XScene_placeNodes_68 : decode zb_XScene_placeNodes 68 = .ok (.ifCond .ge 14, 3) := by decide +kernel
theorem zd_XScene_placeNodes_71 : decode zb_XScene_placeNodes 71 = .ok (.aload_n 2, 1) := by decide +kernel
theorem zd_XScene_placeNodes_72 : decode zb_XScene_placeNodes 72 = .ok (.aload_n 2, 1) := by decide +kernel
theorem zd_XScene_placeNodes_73 : decode zb_XScene_placeNodes 73 = .ok (.getfield 91, 3) := by decide +kernel
theorem zd_XScene_placeNodes_76 : decode zb_XScene_placeNodes 76 = .ok (.invokevirtual 94, 3) := by decide +kernel
theorem zd_XScene_placeNodes_79 : decode zb_XScene_placeNodes 79 = .ok (.goto 34, 3) := by decide +kernel
theorem zd_XScene_placeNodes_82 : decode zb_XScene_placeNodes 82 = .ok (.aload_n 2, 1) := by decide +kernel
theorem zd_XScene_placeNodes_83 : decode zb_XScene_placeNodes 83 = .ok (.aload_n 0, 1) := by decide +kernel
theorem zd_XScene_placeNodes_84 : decode zb_XScene_placeNodes 84 = .ok (.getfield 53, 3) := by decide +kernel
theorem zd_XScene_placeNodes_87 : decode zb_XScene_placeNodes 87 = .ok (.invokevirtual 94, 3) := by decide +kernel
theorem zd_XScene_placeNodes_90 : decode zb_XScene_placeNodes 90 = .ok (.aload_n 0, 1) := by decide +kernel
theorem zd_XScene_placeNodes_91 : decode zb_XScene_placeNodes 91 = .ok (.getfield 37, 3) := by decide +kernel
theorem zd_XScene_placeNodes_94 : decode zb_XScene_placeNodes 94 = .ok (.aload_n 2, 1) := by decide +kernel
theorem zd_XScene_placeNodes_95 : decode zb_XScene_placeNodes 95 = .ok (.getfield 85, 3) := by decide +kernel
theorem zd_XScene_placeNodes_98 : decode zb_XScene_placeNodes 98 = .ok (.aaload, 1) := by decide +kernel
theorem zd_XScene_placeNodes_99 : decode zb_XScene_placeNodes 99 = .ok (.getfield 91, 3) := by decide +kernel
theorem zd_XScene_placeNodes_102 : decode zb_XScene_placeNodes 102 = .ok (.aload_n 0, 1) := by decide +kernel
theorem zd_XScene_placeNodes_103 : decode zb_XScene_placeNodes 103 = .ok (.getfield 53, 3) := by decide +kernel
theorem zd_XScene_placeNodes_106 : decode zb_XScene_placeNodes 106 = .ok (.aload_n 2, 1) := by decide +kernel
theorem zd_XScene_placeNodes_107 : decode zb_XScene_placeNodes 107 = .ok (.getfield 91, 3) := by decide +kernel
theorem zd_XScene_placeNodes_110 : decode zb_XScene_placeNodes 110 = .ok (.invokestatic 98, 3) := by decide +kernel
theorem zd_XScene_placeNodes_113 : decode zb_XScene_placeNodes 113 = .ok (.iinc 1 1, 3) := by decide +kernel
theorem zd_XScene_placeNodes_116 : decode zb_XScene_placeNodes 116 = .ok (.goto (-114), 3) := by decide +kernel
theorem zd_XScene_placeNodes_119 : decode zb_XScene_placeNodes 119 = .ok (.aload_n 0, 1) := by decide +kernel
theorem zd_XScene_placeNodes_120 : decode zb_XScene_placeNodes 120 = .ok (.iconst 1, 1) := by decide +kernel
theorem zd_XScene_placeNodes_121 : decode zb_XScene_placeNodes 121 = .ok (.putfield 68, 3) := by decide +kernel
theorem zd_XScene_placeNodes_124 : decode zb_XScene_placeNodes 124 = .ok (.return_, 1) := by decide +kernel
set_option maxHeartbeats 4000000 in
set_option maxRecDepth 100000 in
theorem e_XScene_placeNodes (l : Launch) (D : va_G) (tA : Nat → ClassId) (b : Nat) (f : zV) (n : Nat) (gc : Nat → Int32) (hs : f 11 = some (.inr (8, zsO b 12 0 0))) (hc : f 12 = some (.inl (tA 0, 5, .inl (gc)))) (k3 : gc (3 : Int32).toNatClampNeg = 0) : zM l D tA b zy_XScene_placeNodes zb_XScene_placeNodes 3 none 0 0 0 0 [.ref (b + 11)] f n (zE none (zu (f) 11 (.inr (8, [.ref (b + 12), .ref (b + (12 + 1)), .ref (b + (12 + 2)), .ref (b + (12 + 19)), .ref (b + (12 + 20)), .ref (b + (12 + 21)), .ref (b + (12 + 22)), .ref (b + (12 + 23)), .int 0, .int 1, .ref (b + (12 + 24))]))) n) := by
  refine zM_of (own := "OrreryBox$Scene") (plainFor_of_name (by decide)) rfl (Nat.le_of_ble_eq_true rfl) (fun p e s m below meth c F hr hin hH => ?_)
  refine zr_iconstv (v := 0) F zd_XScene_placeNodes_0 (by decide) ?_
  refine zr_istore_n F zd_XScene_placeNodes_1 (by decide) ?_
  refine zr_iload_n F zd_XScene_placeNodes_2 rfl ?_
  refine zr_aload_n F zd_XScene_placeNodes_3 rfl ?_
  refine zr_get F 8 0 zd_XScene_placeNodes_4 hs rfl (by decide) zw_281 rfl (by rfl) ?_
  refine zr_iconstv (v := 3) F zd_XScene_placeNodes_7 (by decide) ?_
  refine zr_iald F zd_XScene_placeNodes_8 hc (zx_in (by decide)) ?_
  refine zr_toi (v' := 0) k3 ?_
  refine zr_icmp_ge F 119 zd_XScene_placeNodes_9 (by decide) (fun _ => ?_) (fun h => absurd h (by decide))
  refine zr_aload_n F zd_XScene_placeNodes_119 rfl ?_
  refine zr_iconstv (v := 1) F zd_XScene_placeNodes_120 (by decide) ?_
  refine zr_put F 8 9 zd_XScene_placeNodes_121 hs rfl (by decide) zw_311 rfl rfl rfl rfl (by exact (Nat.le_of_ble_eq_true rfl)) ?_
  refine zr_norm (zu (f) 11 (.inr (8, [.ref (b + 12), .ref (b + (12 + 1)), .ref (b + (12 + 2)), .ref (b + (12 + 19)), .ref (b + (12 + 20)), .ref (b + (12 + 21)), .ref (b + (12 + 22)), .ref (b + (12 + 23)), .int 0, .int 1, .ref (b + (12 + 24))]))) _ (rfl) rfl ?_
  exact zr_vret F hr zd_XScene_placeNodes_124 (Nat.le_of_ble_eq_true rfl) (Nat.le_of_ble_eq_true rfl) ⟨rfl, rfl, rfl⟩
abbrev zb_XFixed_roll : ByteArray := prog_2_method_9_code
def zy_XFixed_roll : MethodName := ⟨"OrreryBox$Fixed", "roll", "([IIJJII)V"⟩
theorem zc_XFixed_roll : Cond.code zy_XFixed_roll zb_XFixed_roll 8 none ∈ gw := gw_t 644 (by decide +kernel) rfl
theorem zq_XFixed_roll : zy_XFixed_roll.cls ≠ "java/lang/invoke/MethodHandle" ∧ zy_XFixed_roll.cls ≠ "java/lang/invoke/VarHandle" ∧ (parseMethodDescriptor zy_XFixed_roll.desc).map (fun d => d.parameters.length) = some 6 := by decide +kernel
theorem zd_XFixed_roll_0 : decode zb_XFixed_roll 0 = .ok (.aload_n 0, 1) := by decide +kernel
theorem zd_XFixed_roll_1 : decode zb_XFixed_roll 1 = .ok (.iload_n 1, 1) := by decide +kernel
theorem zd_XFixed_roll_2 : decode zb_XFixed_roll 2 = .ok (.lload_n 2, 1) := by decide +kernel
theorem zd_XFixed_roll_3 : decode zb_XFixed_roll 3 = .ok (.iload 7, 2) := by decide +kernel
theorem zd_XFixed_roll_5 : decode zb_XFixed_roll 5 = .ok (.i2l, 1) := by decide +kernel
theorem zd_XFixed_roll_6 : decode zb_XFixed_roll 6 = .ok (.invokestatic 36, 3) := by decide +kernel
theorem zd_XFixed_roll_9 : decode zb_XFixed_roll 9 = .ok (.lload 4, 2) := by decide +kernel
theorem zd_XFixed_roll_11 : decode zb_XFixed_roll 11 = .ok (.iload 6, 2) := by decide +kernel
theorem zd_XFixed_roll_13 : decode zb_XFixed_roll 13 = .ok (.i2l, 1) := by decide +kernel
theorem zd_XFixed_roll_14 : decode zb_XFixed_roll 14 = .ok (.invokestatic 36, 3) := by decide +kernel
theorem zd_XFixed_roll_17 : decode zb_XFixed_roll 17 = .ok (.ladd, 1) := by decide +kernel
theorem zd_XFixed_roll_18 : decode zb_XFixed_roll 18 = .ok (.l2i, 1) := by decide +kernel
theorem zd_XFixed_roll_19 : decode zb_XFixed_roll 19 = .ok (.iastore, 1) := by decide +kernel
theorem zd_XFixed_roll_20 : decode zb_XFixed_roll 20 = .ok (.aload_n 0, 1) := by decide +kernel
theorem zd_XFixed_roll_21 : decode zb_XFixed_roll 21 = .ok (.iload_n 1, 1) := by decide +kernel
theorem zd_XFixed_roll_22 : decode zb_XFixed_roll 22 = .ok (.iconst 1, 1) := by decide +kernel
theorem zd_XFixed_roll_23 : decode zb_XFixed_roll 23 = .ok (.iadd, 1) := by decide +kernel
theorem zd_XFixed_roll_24 : decode zb_XFixed_roll 24 = .ok (.lload_n 2, 1) := by decide +kernel
theorem zd_XFixed_roll_25 : decode zb_XFixed_roll 25 = .ok (.iload 6, 2) := by decide +kernel
theorem zd_XFixed_roll_27 : decode zb_XFixed_roll 27 = .ok (.ineg, 1) := by decide +kernel
theorem zd_XFixed_roll_28 : decode zb_XFixed_roll 28 = .ok (.i2l, 1) := by decide +kernel
theorem zd_XFixed_roll_29 : decode zb_XFixed_roll 29 = .ok (.invokestatic 36, 3) := by decide +kernel
theorem zd_XFixed_roll_32 : decode zb_XFixed_roll 32 = .ok (.lload 4, 2) := by decide +kernel
theorem zd_XFixed_roll_34 : decode zb_XFixed_roll 34 = .ok (.iload 7, 2) := by decide +kernel
theorem zd_XFixed_roll_36 : decode zb_XFixed_roll 36 = .ok (.i2l, 1) := by decide +kernel
theorem zd_XFixed_roll_37 : decode zb_XFixed_roll 37 = .ok (.invokestatic 36, 3) := by decide +kernel
theorem zd_XFixed_roll_40 : decode zb_XFixed_roll 40 = .ok (.ladd, 1) := by decide +kernel
theorem zd_XFixed_roll_41 : decode zb_XFixed_roll 41 = .ok (.l2i, 1) := by decide +kernel
theorem zd_XFixed_roll_42 : decode zb_XFixed_roll 42 = .ok (.iastore, 1) := by decide +kernel
theorem zd_XFixed_roll_43 : decode zb_XFixed_roll 43 = .ok (.return_, 1) := by decide +kernel
theorem zw_641 : (Jvm.Cond.methodLink "OrreryBox$Fixed" (36 : Nat) ({ cls := "OrreryBox$Fixed", name := "mul", desc := "(JJ)J" } : Jvm.MethodName)) ∈ gw := gw_t 641 (by decide +kernel) rfl
theorem zw_578 : (Jvm.Cond.static ({ cls := "OrreryBox$Fixed", name := "mul", desc := "(JJ)J" } : Jvm.MethodName)) ∈ gw := gw_t 578 (by decide +kernel) rfl
theorem zs_XFixed_36 : zwS "OrreryBox$Fixed" 36 zy_XFixed_mul zb_XFixed_mul 4 (some .long) := ⟨zw_641, zw_578, zw_27, zc_XFixed_mul⟩
def sg_XFixed_roll (i : Int32) (x : Int64) (y : Int64) (sz : Int32) (cz : Int32) (g : Nat → Int32) : Nat → Int32 := upd (upd (g) ((i : Int32).toNatClampNeg) ((((zx_mul x ((cz : Int32).toInt64)) + (zx_mul y ((sz : Int32).toInt64))) : Int64).toInt32)) (((i + 1) : Int32).toNatClampNeg) ((((zx_mul x (((-sz) : Int32).toInt64)) + (zx_mul y ((cz : Int32).toInt64))) : Int64).toInt32)
set_option maxHeartbeats 4000000 in
set_option maxRecDepth 100000 in
theorem e_XFixed_roll (l : Launch) (D : va_G) (tA : Nat → ClassId) (b : Nat) (f : zV) (n : Nat) (q : Nat) (i : Int32) (x : Int64) (y : Int64) (sz : Int32) (cz : Int32) (g : Nat → Int32) (hq : f q = some (.inl (tA 0, 12, .inl (g)))) (hi : vp_in i 12) (hj : vp_in (i + 1) 12) : zM l D tA b zy_XFixed_roll zb_XFixed_roll 8 none 1 23 0 0 [.ref (b + q), .int i, .long x, .long y, .int sz, .int cz] f n (zE none (zu (f) q (.inl (tA 0, 12, .inl ((sg_XFixed_roll i x y sz cz g))))) n) := by
  refine zM_of (own := "OrreryBox$Fixed") (plainFor_of_name (by decide)) rfl (Nat.le_of_ble_eq_true rfl) (fun p e s m below meth c F hr hin hH => ?_)
  refine zr_aload_n F zd_XFixed_roll_0 rfl ?_
  refine zr_iload_n F zd_XFixed_roll_1 rfl ?_
  refine zr_lload_n F zd_XFixed_roll_2 rfl ?_
  refine zr_iload F zd_XFixed_roll_3 rfl ?_
  refine zr_i2l F zd_XFixed_roll_5 ?_
  refine zr_callS1 F (c_XFixed_mul l D tA b _ _ x ((cz : Int32).toInt64)  ) zd_XFixed_roll_6 zs_XFixed_36 zq_XFixed_mul rfl rfl ⟨(Nat.le_of_ble_eq_true rfl), (Nat.le_of_ble_eq_true rfl)⟩ (Nat.le_of_ble_eq_true rfl) ⟨(Nat.le_of_ble_eq_true rfl), (Nat.le_of_ble_eq_true rfl)⟩ ?_
  refine zr_lload F zd_XFixed_roll_9 rfl ?_
  refine zr_iload F zd_XFixed_roll_11 rfl ?_
  refine zr_i2l F zd_XFixed_roll_13 ?_
  refine zr_callS1 F (c_XFixed_mul l D tA b _ _ y ((sz : Int32).toInt64)  ) zd_XFixed_roll_14 zs_XFixed_36 zq_XFixed_mul rfl rfl ⟨(Nat.le_of_ble_eq_true rfl), (Nat.le_of_ble_eq_true rfl)⟩ (Nat.le_of_ble_eq_true rfl) ⟨(Nat.le_of_ble_eq_true rfl), (Nat.le_of_ble_eq_true rfl)⟩ ?_
  refine zr_ladd F zd_XFixed_roll_17 ?_
  refine zr_l2i F zd_XFixed_roll_18 ?_
  refine zr_iast F zd_XFixed_roll_19 hq hi ?_
  refine zr_norm (zu (f) q (.inl (tA 0, 12, .inl (upd (g) ((i : Int32).toNatClampNeg) ((((zx_mul x ((cz : Int32).toInt64)) + (zx_mul y ((sz : Int32).toInt64))) : Int64).toInt32))))) _ (rfl) rfl ?_
  refine zr_aload_n F zd_XFixed_roll_20 rfl ?_
  refine zr_iload_n F zd_XFixed_roll_21 rfl ?_
  refine zr_iconstv (v := 1) F zd_XFixed_roll_22 (by decide) ?_
  refine zr_iadd F zd_XFixed_roll_23 ?_
  refine zr_lload_n F zd_XFixed_roll_24 rfl ?_
  refine zr_iload F zd_XFixed_roll_25 rfl ?_
  refine zr_ineg F zd_XFixed_roll_27 ?_
  refine zr_i2l F zd_XFixed_roll_28 ?_
  refine zr_callS1 F (c_XFixed_mul l D tA b _ _ x (((-sz) : Int32).toInt64)  ) zd_XFixed_roll_29 zs_XFixed_36 zq_XFixed_mul rfl rfl ⟨(Nat.le_of_ble_eq_true rfl), (Nat.le_of_ble_eq_true rfl)⟩ (Nat.le_of_ble_eq_true rfl) ⟨(Nat.le_of_ble_eq_true rfl), (Nat.le_of_ble_eq_true rfl)⟩ ?_
  refine zr_lload F zd_XFixed_roll_32 rfl ?_
  refine zr_iload F zd_XFixed_roll_34 rfl ?_
  refine zr_i2l F zd_XFixed_roll_36 ?_
  refine zr_callS1 F (c_XFixed_mul l D tA b _ _ y ((cz : Int32).toInt64)  ) zd_XFixed_roll_37 zs_XFixed_36 zq_XFixed_mul rfl rfl ⟨(Nat.le_of_ble_eq_true rfl), (Nat.le_of_ble_eq_true rfl)⟩ (Nat.le_of_ble_eq_true rfl) ⟨(Nat.le_of_ble_eq_true rfl), (Nat.le_of_ble_eq_true rfl)⟩ ?_
  refine zr_ladd F zd_XFixed_roll_40 ?_
  refine zr_l2i F zd_XFixed_roll_41 ?_
  refine zr_iast F zd_XFixed_roll_42 (zu_s _ _ _) hj ?_
  refine zr_norm (zu (f) q (.inl (tA 0, 12, .inl (upd (upd (g) ((i : Int32).toNatClampNeg) ((((zx_mul x ((cz : Int32).toInt64)) + (zx_mul y ((sz : Int32).toInt64))) : Int64).toInt32)) (((i + 1) : Int32).toNatClampNeg) ((((zx_mul x (((-sz) : Int32).toInt64)) + (zx_mul y ((cz : Int32).toInt64))) : Int64).toInt32))))) _ (zu_zu _ _ _ _) rfl ?_
  exact zr_vret F hr zd_XFixed_roll_43 (Nat.le_of_ble_eq_true rfl) (Nat.le_of_ble_eq_true rfl) ⟨rfl, rfl, rfl⟩
abbrev zb_XFixed_turn : ByteArray := prog_2_method_8_code
def zy_XFixed_turn : MethodName := ⟨"OrreryBox$Fixed", "turn", "([II[I)V"⟩
theorem zc_XFixed_turn : Cond.code zy_XFixed_turn zb_XFixed_turn 9 none ∈ gw := gw_t 632 (by decide +kernel) rfl
theorem zq_XFixed_turn : zy_XFixed_turn.cls ≠ "java/lang/invoke/MethodHandle" ∧ zy_XFixed_turn.cls ≠ "java/lang/invoke/VarHandle" ∧ (parseMethodDescriptor zy_XFixed_turn.desc).map (fun d => d.parameters.length) = some 3 := by decide +kernel
theorem zd_XFixed_turn_0 : decode zb_XFixed_turn 0 = .ok (.aload_n 0, 1) := by decide +kernel
theorem zd_XFixed_turn_1 : decode zb_XFixed_turn 1 = .ok (.iload_n 1, 1) := by decide +kernel
theorem zd_XFixed_turn_2 : decode zb_XFixed_turn 2 = .ok (.iaload, 1) := by decide +kernel
theorem zd_XFixed_turn_3 : decode zb_XFixed_turn 3 = .ok (.invokestatic 47, 3) := by decide +kernel
theorem zd_XFixed_turn_6 : decode zb_XFixed_turn 6 = .ok (.istore_n 3, 1) := by decide +kernel
theorem zd_XFixed_turn_7 : decode zb_XFixed_turn 7 = .ok (.aload_n 0, 1) := by decide +kernel
theorem zd_XFixed_turn_8 : decode zb_XFixed_turn 8 = .ok (.iload_n 1, 1) := by decide +kernel
theorem zd_XFixed_turn_9 : decode zb_XFixed_turn 9 = .ok (.iaload, 1) := by decide +kernel
theorem zd_XFixed_turn_10 : decode zb_XFixed_turn 10 = .ok (.sipush 1024, 3) := by decide +kernel
theorem zd_XFixed_turn_13 : decode zb_XFixed_turn 13 = .ok (.iadd, 1) := by decide +kernel
theorem zd_XFixed_turn_14 : decode zb_XFixed_turn 14 = .ok (.invokestatic 47, 3) := by decide +kernel
theorem zd_XFixed_turn_17 : decode zb_XFixed_turn 17 = .ok (.istore 4, 2) := by decide +kernel
theorem zd_XFixed_turn_19 : decode zb_XFixed_turn 19 = .ok (.aload_n 0, 1) := by decide +kernel
theorem zd_XFixed_turn_20 : decode zb_XFixed_turn 20 = .ok (.iload_n 1, 1) := by decide +kernel
theorem zd_XFixed_turn_21 : decode zb_XFixed_turn 21 = .ok (.iconst 1, 1) := by decide +kernel
theorem zd_XFixed_turn_22 : decode zb_XFixed_turn 22 = .ok (.iadd, 1) := by decide +kernel
theorem zd_XFixed_turn_23 : decode zb_XFixed_turn 23 = .ok (.iaload, 1) := by decide +kernel
theorem zd_XFixed_turn_24 : decode zb_XFixed_turn 24 = .ok (.invokestatic 47, 3) := by decide +kernel
theorem zd_XFixed_turn_27 : decode zb_XFixed_turn 27 = .ok (.istore 5, 2) := by decide +kernel
theorem zd_XFixed_turn_29 : decode zb_XFixed_turn 29 = .ok (.aload_n 0, 1) := by decide +kernel
theorem zd_XFixed_turn_30 : decode zb_XFixed_turn 30 = .ok (.iload_n 1, 1) := by decide +kernel
theorem zd_XFixed_turn_31 : decode zb_XFixed_turn 31 = .ok (.iconst 1, 1) := by decide +kernel
theorem zd_XFixed_turn_32 : decode zb_XFixed_turn 32 = .ok (.iadd, 1) := by decide +kernel
theorem zd_XFixed_turn_33 : decode zb_XFixed_turn 33 = .ok (.iaload, 1) := by decide +kernel
theorem zd_XFixed_turn_34 : decode zb_XFixed_turn 34 = .ok (.sipush 1024, 3) := by decide +kernel
theorem zd_XFixed_turn_37 : decode zb_XFixed_turn 37 = .ok (.iadd, 1) := by decide +kernel
theorem zd_XFixed_turn_38 : decode zb_XFixed_turn 38 = .ok (.invokestatic 47, 3) := by decide +kernel
theorem zd_XFixed_turn_41 : decode zb_XFixed_turn 41 = .ok (.istore 6, 2) := by decide +kernel
theorem zd_XFixed_turn_43 : decode zb_XFixed_turn 43 = .ok (.aload_n 0, 1) := by decide +kernel
theorem zd_XFixed_turn_44 : decode zb_XFixed_turn 44 = .ok (.iload_n 1, 1) := by decide +kernel
theorem zd_XFixed_turn_45 : decode zb_XFixed_turn 45 = .ok (.iconst 2, 1) := by decide +kernel
theorem zd_XFixed_turn_46 : decode zb_XFixed_turn 46 = .ok (.iadd, 1) := by decide +kernel
theorem zd_XFixed_turn_47 : decode zb_XFixed_turn 47 = .ok (.iaload, 1) := by decide +kernel
theorem zd_XFixed_turn_48 : decode zb_XFixed_turn 48 = .ok (.invokestatic 47, 3) := by decide +kernel
theorem zd_XFixed_turn_51 : decode zb_XFixed_turn 51 = .ok (.istore 7, 2) := by decide +kernel
theorem zd_XFixed_turn_53 : decode zb_XFixed_turn 53 = .ok (.aload_n 0, 1) := by decide +kernel
theorem zd_XFixed_turn_54 : decode zb_XFixed_turn 54 = .ok (.iload_n 1, 1) := by decide +kernel
theorem zd_XFixed_turn_55 : decode zb_XFixed_turn 55 = .ok (.iconst 2, 1) := by decide +kernel
theorem zd_XFixed_turn_56 : decode zb_XFixed_turn 56 = .ok (.iadd, 1) := by decide +kernel
theorem zd_XFixed_turn_57 : decode zb_XFixed_turn 57 = .ok (.iaload, 1) := by decide +kernel
theorem zd_XFixed_turn_58 : decode zb_XFixed_turn 58 = .ok (.sipush 1024, 3) := by decide +kernel
theorem zd_XFixed_turn_61 : decode zb_XFixed_turn 61 = .ok (.iadd, 1) := by decide +kernel
theorem zd_XFixed_turn_62 : decode zb_XFixed_turn 62 = .ok (.invokestatic 47, 3) := by decide +kernel
theorem zd_XFixed_turn_65 : decode zb_XFixed_turn 65 = .ok (.istore 8, 2) := by decide +kernel
theorem zd_XFixed_turn_67 : decode zb_XFixed_turn 67 = .ok (.aload_n 2, 1) := by decide +kernel
theorem zd_XFixed_turn_68 : decode zb_XFixed_turn 68 = .ok (.iconst 0, 1) := by decide +kernel
theorem zd_XFixed_turn_69 : decode zb_XFixed_turn 69 = .ok (.iload 6, 2) := by decide +kernel
theorem zd_XFixed_turn_71 : decode zb_XFixed_turn 71 = .ok (.i2l, 1) := by decide +kernel
theorem zd_XFixed_turn_72 : decode zb_XFixed_turn 72 = .ok (.iload 5, 2) := by decide +kernel
theorem zd_XFixed_turn_74 : decode zb_XFixed_turn 74 = .ok (.i2l, 1) := by decide +kernel
theorem zd_XFixed_turn_75 : decode zb_XFixed_turn 75 = .ok (.iload_n 3, 1) := by decide +kernel
theorem zd_XFixed_turn_76 : decode zb_XFixed_turn 76 = .ok (.i2l, 1) := by decide +kernel
theorem zd_XFixed_turn_77 : decode zb_XFixed_turn 77 = .ok (.invokestatic 36, 3) := by decide +kernel
theorem zd_XFixed_turn_80 : decode zb_XFixed_turn 80 = .ok (.iload 7, 2) := by decide +kernel
theorem zd_XFixed_turn_82 : decode zb_XFixed_turn 82 = .ok (.iload 8, 2) := by decide +kernel
theorem zd_XFixed_turn_84 : decode zb_XFixed_turn 84 = .ok (.invokestatic 51, 3) := by decide +kernel
theorem zd_XFixed_turn_87 : decode zb_XFixed_turn 87 = .ok (.aload_n 2, 1) := by decide +kernel
theorem zd_XFixed_turn_88 : decode zb_XFixed_turn 88 = .ok (.iconst 2, 1) := by decide +kernel
theorem zd_XFixed_turn_89 : decode zb_XFixed_turn 89 = .ok (.iload 5, 2) := by decide +kernel
theorem zd_XFixed_turn_91 : decode zb_XFixed_turn 91 = .ok (.i2l, 1) := by decide +kernel
theorem zd_XFixed_turn_92 : decode zb_XFixed_turn 92 = .ok (.iload 4, 2) := by decide +kernel
theorem zd_XFixed_turn_94 : decode zb_XFixed_turn 94 = .ok (.i2l, 1) := by decide +kernel
theorem zd_XFixed_turn_95 : decode zb_XFixed_turn 95 = .ok (.invokestatic 36, 3) := by decide +kernel
theorem zd_XFixed_turn_98 : decode zb_XFixed_turn 98 = .ok (.l2i, 1) := by decide +kernel
theorem zd_XFixed_turn_99 : decode zb_XFixed_turn 99 = .ok (.iastore, 1) := by decide +kernel
theorem zd_XFixed_turn_100 : decode zb_XFixed_turn 100 = .ok (.aload_n 2, 1) := by decide +kernel
theorem zd_XFixed_turn_101 : decode zb_XFixed_turn 101 = .ok (.iconst 4, 1) := by decide +kernel
theorem zd_XFixed_turn_102 : decode zb_XFixed_turn 102 = .ok (.lconst 0, 1) := by decide +kernel
theorem zd_XFixed_turn_103 : decode zb_XFixed_turn 103 = .ok (.iload 4, 2) := by decide +kernel
theorem zd_XFixed_turn_105 : decode zb_XFixed_turn 105 = .ok (.i2l, 1) := by decide +kernel
theorem zd_XFixed_turn_106 : decode zb_XFixed_turn 106 = .ok (.iload 7, 2) := by decide +kernel
theorem zd_XFixed_turn_108 : decode zb_XFixed_turn 108 = .ok (.iload 8, 2) := by decide +kernel
theorem zd_XFixed_turn_110 : decode zb_XFixed_turn 110 = .ok (.invokestatic 51, 3) := by decide +kernel
theorem zd_XFixed_turn_113 : decode zb_XFixed_turn 113 = .ok (.aload_n 2, 1) := by decide +kernel
theorem zd_XFixed_turn_114 : decode zb_XFixed_turn 114 = .ok (.bipush 6, 2) := by decide +kernel
theorem zd_XFixed_turn_116 : decode zb_XFixed_turn 116 = .ok (.iload_n 3, 1) := by decide +kernel
theorem zd_XFixed_turn_117 : decode zb_XFixed_turn 117 = .ok (.ineg, 1) := by decide +kernel
theorem zd_XFixed_turn_118 : decode zb_XFixed_turn 118 = .ok (.iastore, 1) := by decide +kernel
theorem zd_XFixed_turn_119 : decode zb_XFixed_turn 119 = .ok (.aload_n 2, 1) := by decide +kernel
theorem zd_XFixed_turn_120 : decode zb_XFixed_turn 120 = .ok (.bipush 8, 2) := by decide +kernel
theorem zd_XFixed_turn_122 : decode zb_XFixed_turn 122 = .ok (.iload 5, 2) := by decide +kernel
theorem zd_XFixed_turn_124 : decode zb_XFixed_turn 124 = .ok (.ineg, 1) := by decide +kernel
theorem zd_XFixed_turn_125 : decode zb_XFixed_turn 125 = .ok (.i2l, 1) := by decide +kernel
theorem zd_XFixed_turn_126 : decode zb_XFixed_turn 126 = .ok (.iload 6, 2) := by decide +kernel
theorem zd_XFixed_turn_128 : decode zb_XFixed_turn 128 = .ok (.i2l, 1) := by decide +kernel
theorem zd_XFixed_turn_129 : decode zb_XFixed_turn 129 = .ok (.iload_n 3, 1) := by decide +kernel
theorem zd_XFixed_turn_130 : decode zb_XFixed_turn 130 = .ok (.i2l, 1) := by decide +kernel
theorem zd_XFixed_turn_131 : decode zb_XFixed_turn 131 = .ok (.invokestatic 36, 3) := by decide +kernel
theorem zd_XFixed_turn_134 : decode zb_XFixed_turn 134 = .ok (.iload 7, 2) := by decide +kernel
theorem zd_XFixed_turn_136 : decode zb_XFixed_turn 136 = .ok (.iload 8, 2) := by decide +kernel
theorem zd_XFixed_turn_138 : decode zb_XFixed_turn 138 = .ok (.invokestatic 51, 3) := by decide +kernel
theorem zd_XFixed_turn_141 : decode zb_XFixed_turn 141 = .ok (.aload_n 2, 1) := by decide +kernel
theorem zd_XFixed_turn_142 : decode zb_XFixed_turn 142 = .ok (.bipush 10, 2) := by decide +kernel
theorem zd_XFixed_turn_144 : decode zb_XFixed_turn 144 = .ok (.iload 6, 2) := by decide +kernel
theorem zd_XFixed_turn_146 : decode zb_XFixed_turn 146 = .ok (.i2l, 1) := by decide +kernel
theorem zd_XFixed_turn_147 : decode zb_XFixed_turn 147 = .ok (.iload 4, 2) := by decide +kernel
theorem zd_XFixed_turn_149 : decode zb_XFixed_turn 149 = .ok (.i2l, 1) := by decide +kernel
theorem zd_XFixed_turn_150 : decode zb_XFixed_turn 150 = .ok (.invokestatic 36, 3) := by decide +kernel
theorem zd_XFixed_turn_153 : decode zb_XFixed_turn 153 = .ok (.l2i, 1) := by decide +kernel
theorem zd_XFixed_turn_154 : decode zb_XFixed_turn 154 = .ok (.iastore, 1) := by decide +kernel
theorem zd_XFixed_turn_155 : decode zb_XFixed_turn 155 = .ok (.return_, 1) := by decide +kernel
theorem zw_633 : (Jvm.Cond.methodLink "OrreryBox$Fixed" (47 : Nat) ({ cls := "OrreryBox$Fixed", name := "sin", desc := "(I)I" } : Jvm.MethodName)) ∈ gw := gw_t 633 (by decide +kernel) rfl
theorem zw_634 : (Jvm.Cond.static ({ cls := "OrreryBox$Fixed", name := "sin", desc := "(I)I" } : Jvm.MethodName)) ∈ gw := gw_t 634 (by decide +kernel) rfl
theorem zs_XFixed_47 : zwS "OrreryBox$Fixed" 47 zy_XFixed_sin zb_XFixed_sin 7 (some .int) := ⟨zw_633, zw_634, zw_27, zc_XFixed_sin⟩
theorem zw_642 : (Jvm.Cond.methodLink "OrreryBox$Fixed" (51 : Nat) ({ cls := "OrreryBox$Fixed", name := "roll", desc := "([IIJJII)V" } : Jvm.MethodName)) ∈ gw := gw_t 642 (by decide +kernel) rfl
theorem zw_643 : (Jvm.Cond.static ({ cls := "OrreryBox$Fixed", name := "roll", desc := "([IIJJII)V" } : Jvm.MethodName)) ∈ gw := gw_t 643 (by decide +kernel) rfl
theorem zs_XFixed_51 : zwS "OrreryBox$Fixed" 51 zy_XFixed_roll zb_XFixed_roll 8 none := ⟨zw_642, zw_643, zw_27, zc_XFixed_roll⟩
def sg_XFixed_turn (g1 : Nat → Int32) (g2 : Nat → Int32) : Nat → Int32 := upd ((sg_XFixed_roll 8 (((-(zx_sin (g1 (4 : Int32).toNatClampNeg))) : Int32).toInt64) (zx_mul (((zx_sin ((g1 (4 : Int32).toNatClampNeg) + 1024)) : Int32).toInt64) (((zx_sin (g1 (3 : Int32).toNatClampNeg)) : Int32).toInt64)) (zx_sin (g1 (5 : Int32).toNatClampNeg)) (zx_sin ((g1 (5 : Int32).toNatClampNeg) + 1024)) (upd ((sg_XFixed_roll 4 0 (((zx_sin ((g1 (3 : Int32).toNatClampNeg) + 1024)) : Int32).toInt64) (zx_sin (g1 (5 : Int32).toNatClampNeg)) (zx_sin ((g1 (5 : Int32).toNatClampNeg) + 1024)) (upd ((sg_XFixed_roll 0 (((zx_sin ((g1 (4 : Int32).toNatClampNeg) + 1024)) : Int32).toInt64) (zx_mul (((zx_sin (g1 (4 : Int32).toNatClampNeg)) : Int32).toInt64) (((zx_sin (g1 (3 : Int32).toNatClampNeg)) : Int32).toInt64)) (zx_sin (g1 (5 : Int32).toNatClampNeg)) (zx_sin ((g1 (5 : Int32).toNatClampNeg) + 1024)) g2)) ((2 : Int32).toNatClampNeg) (((zx_mul (((zx_sin (g1 (4 : Int32).toNatClampNeg)) : Int32).toInt64) (((zx_sin ((g1 (3 : Int32).toNatClampNeg) + 1024)) : Int32).toInt64)) : Int64).toInt32)))) ((6 : Int32).toNatClampNeg) ((-(zx_sin (g1 (3 : Int32).toNatClampNeg))))))) ((10 : Int32).toNatClampNeg) (((zx_mul (((zx_sin ((g1 (4 : Int32).toNatClampNeg) + 1024)) : Int32).toInt64) (((zx_sin ((g1 (3 : Int32).toNatClampNeg) + 1024)) : Int32).toInt64)) : Int64).toInt32)
set_option maxHeartbeats 4000000 in
set_option maxRecDepth 100000 in
theorem e_XFixed_turn (l : Launch) (D : va_G) (tA : Nat → ClassId) (b : Nat) (f : zV) (n : Nat) (q1 : Nat) (q2 : Nat) (N : Nat) (g1 : Nat → Int32) (g2 : Nat → Int32) (hq : f q1 = some (.inl (tA 0, N, .inl (g1)))) (hq2 : f q2 = some (.inl (tA 0, 12, .inl (g2)))) (hN : 5 < N) (hM : N < 1000) : zM l D tA b zy_XFixed_turn zb_XFixed_turn 9 none 3 74 0 0 [.ref (b + q1), .int 3, .ref (b + q2)] f n (zE none (zu (f) q2 (.inl (tA 0, 12, .inl ((sg_XFixed_turn g1 g2))))) n) := by
  refine zM_of (own := "OrreryBox$Fixed") (plainFor_of_name (by decide)) rfl (Nat.le_of_ble_eq_true rfl) (fun p e s m below meth c F hr hin hH => ?_)
  refine zr_aload_n F zd_XFixed_turn_0 rfl ?_
  refine zr_iload_n F zd_XFixed_turn_1 rfl ?_
  refine zr_iald F zd_XFixed_turn_2 hq (vp_in_nI (n := 3) (by omega) (by omega)) ?_
  refine zr_callS1 F (c_XFixed_sin l D tA b _ _ (g1 (3 : Int32).toNatClampNeg)  ) zd_XFixed_turn_3 zs_XFixed_47 zq_XFixed_sin rfl rfl ⟨(Nat.le_of_ble_eq_true rfl), (Nat.le_of_ble_eq_true rfl)⟩ (Nat.le_of_ble_eq_true rfl) ⟨(Nat.le_of_ble_eq_true rfl), (Nat.le_of_ble_eq_true rfl)⟩ ?_
  refine zr_istore_n F zd_XFixed_turn_6 (by decide) ?_
  refine zr_aload_n F zd_XFixed_turn_7 rfl ?_
  refine zr_iload_n F zd_XFixed_turn_8 rfl ?_
  refine zr_iald F zd_XFixed_turn_9 hq (vp_in_nI (n := 3) (by omega) (by omega)) ?_
  refine zr_sipushv (v := 1024) F zd_XFixed_turn_10 (by decide) ?_
  refine zr_iadd F zd_XFixed_turn_13 ?_
  refine zr_callS1 F (c_XFixed_sin l D tA b _ _ ((g1 (3 : Int32).toNatClampNeg) + 1024)  ) zd_XFixed_turn_14 zs_XFixed_47 zq_XFixed_sin rfl rfl ⟨(Nat.le_of_ble_eq_true rfl), (Nat.le_of_ble_eq_true rfl)⟩ (Nat.le_of_ble_eq_true rfl) ⟨(Nat.le_of_ble_eq_true rfl), (Nat.le_of_ble_eq_true rfl)⟩ ?_
  refine zr_istore F zd_XFixed_turn_17 (by decide) ?_
  refine zr_aload_n F zd_XFixed_turn_19 rfl ?_
  refine zr_iload_n F zd_XFixed_turn_20 rfl ?_
  refine zr_iconstv (v := 1) F zd_XFixed_turn_21 (by decide) ?_
  refine zr_iadd F zd_XFixed_turn_22 ?_
  refine zr_toi (v' := 4) (by decide) ?_
  refine zr_iald F zd_XFixed_turn_23 hq (vp_in_nI (n := 4) (by omega) (by omega)) ?_
  refine zr_callS1 F (c_XFixed_sin l D tA b _ _ (g1 (4 : Int32).toNatClampNeg)  ) zd_XFixed_turn_24 zs_XFixed_47 zq_XFixed_sin rfl rfl ⟨(Nat.le_of_ble_eq_true rfl), (Nat.le_of_ble_eq_true rfl)⟩ (Nat.le_of_ble_eq_true rfl) ⟨(Nat.le_of_ble_eq_true rfl), (Nat.le_of_ble_eq_true rfl)⟩ ?_
  refine zr_istore F zd_XFixed_turn_27 (by decide) ?_
  refine zr_aload_n F zd_XFixed_turn_29 rfl ?_
  refine zr_iload_n F zd_XFixed_turn_30 rfl ?_
  refine zr_iconstv (v := 1) F zd_XFixed_turn_31 (by decide) ?_
  refine zr_iadd F zd_XFixed_turn_32 ?_
  refine zr_toi (v' := 4) (by decide) ?_
  refine zr_iald F zd_XFixed_turn_33 hq (vp_in_nI (n := 4) (by omega) (by omega)) ?_
  refine zr_sipushv (v := 1024) F zd_XFixed_turn_34 (by decide) ?_
  refine zr_iadd F zd_XFixed_turn_37 ?_
  refine zr_callS1 F (c_XFixed_sin l D tA b _ _ ((g1 (4 : Int32).toNatClampNeg) + 1024)  ) zd_XFixed_turn_38 zs_XFixed_47 zq_XFixed_sin rfl rfl ⟨(Nat.le_of_ble_eq_true rfl), (Nat.le_of_ble_eq_true rfl)⟩ (Nat.le_of_ble_eq_true rfl) ⟨(Nat.le_of_ble_eq_true rfl), (Nat.le_of_ble_eq_true rfl)⟩ ?_
  refine zr_istore F zd_XFixed_turn_41 (by decide) ?_
  refine zr_aload_n F zd_XFixed_turn_43 rfl ?_
  refine zr_iload_n F zd_XFixed_turn_44 rfl ?_
  refine zr_iconstv (v := 2) F zd_XFixed_turn_45 (by decide) ?_
  refine zr_iadd F zd_XFixed_turn_46 ?_
  refine zr_toi (v' := 5) (by decide) ?_
  refine zr_iald F zd_XFixed_turn_47 hq (vp_in_nI (n := 5) (by omega) (by omega)) ?_
  refine zr_callS1 F (c_XFixed_sin l D tA b _ _ (g1 (5 : Int32).toNatClampNeg)  ) zd_XFixed_turn_48 zs_XFixed_47 zq_XFixed_sin rfl rfl ⟨(Nat.le_of_ble_eq_true rfl), (Nat.le_of_ble_eq_true rfl)⟩ (Nat.le_of_ble_eq_true rfl) ⟨(Nat.le_of_ble_eq_true rfl), (Nat.le_of_ble_eq_true rfl)⟩ ?_
  refine zr_istore F zd_XFixed_turn_51 (by decide) ?_
  refine zr_aload_n F zd_XFixed_turn_53 rfl ?_
  refine zr_iload_n F zd_XFixed_turn_54 rfl ?_
  refine zr_iconstv (v := 2) F zd_XFixed_turn_55 (by decide) ?_
  refine zr_iadd F zd_XFixed_turn_56 ?_
  refine zr_toi (v' := 5) (by decide) ?_
  refine zr_iald F zd_XFixed_turn_57 hq (vp_in_nI (n := 5) (by omega) (by omega)) ?_
  refine zr_sipushv (v := 1024) F zd_XFixed_turn_58 (by decide) ?_
  refine zr_iadd F zd_XFixed_turn_61 ?_
  refine zr_callS1 F (c_XFixed_sin l D tA b _ _ ((g1 (5 : Int32).toNatClampNeg) + 1024)  ) zd_XFixed_turn_62 zs_XFixed_47 zq_XFixed_sin rfl rfl ⟨(Nat.le_of_ble_eq_true rfl), (Nat.le_of_ble_eq_true rfl)⟩ (Nat.le_of_ble_eq_true rfl) ⟨(Nat.le_of_ble_eq_true rfl), (Nat.le_of_ble_eq_true rfl)⟩ ?_
  refine zr_istore F zd_XFixed_turn_65 (by decide) ?_
  refine zr_aload_n F zd_XFixed_turn_67 rfl ?_
  refine zr_iconstv (v := 0) F zd_XFixed_turn_68 (by decide) ?_
  refine zr_iload F zd_XFixed_turn_69 rfl ?_
  refine zr_i2l F zd_XFixed_turn_71 ?_
  refine zr_iload F zd_XFixed_turn_72 rfl ?_
  refine zr_i2l F zd_XFixed_turn_74 ?_
  refine zr_iload_n F zd_XFixed_turn_75 rfl ?_
  refine zr_i2l F zd_XFixed_turn_76 ?_
  refine zr_callS1 F (c_XFixed_mul l D tA b _ _ (((zx_sin (g1 (4 : Int32).toNatClampNeg)) : Int32).toInt64) (((zx_sin (g1 (3 : Int32).toNatClampNeg)) : Int32).toInt64)  ) zd_XFixed_turn_77 zs_XFixed_36 zq_XFixed_mul rfl rfl ⟨(Nat.le_of_ble_eq_true rfl), (Nat.le_of_ble_eq_true rfl)⟩ (Nat.le_of_ble_eq_true rfl) ⟨(Nat.le_of_ble_eq_true rfl), (Nat.le_of_ble_eq_true rfl)⟩ ?_
  refine zr_iload F zd_XFixed_turn_80 rfl ?_
  refine zr_iload F zd_XFixed_turn_82 rfl ?_
  refine zr_callS0 F (e_XFixed_roll l D tA b _ _ q2 0 (((zx_sin ((g1 (4 : Int32).toNatClampNeg) + 1024)) : Int32).toInt64) (zx_mul (((zx_sin (g1 (4 : Int32).toNatClampNeg)) : Int32).toInt64) (((zx_sin (g1 (3 : Int32).toNatClampNeg)) : Int32).toInt64)) (zx_sin (g1 (5 : Int32).toNatClampNeg)) (zx_sin ((g1 (5 : Int32).toNatClampNeg) + 1024)) g2 hq2 (zx_in (by decide)) (zx_in (by decide))) zd_XFixed_turn_84 zs_XFixed_51 zq_XFixed_roll rfl rfl ⟨(Nat.le_of_ble_eq_true rfl), (Nat.le_of_ble_eq_true rfl)⟩ (Nat.le_of_ble_eq_true rfl) ⟨(Nat.le_of_ble_eq_true rfl), (Nat.le_of_ble_eq_true rfl)⟩ ?_
  refine zr_norm (zu (f) q2 (.inl (tA 0, 12, .inl ((sg_XFixed_roll 0 (((zx_sin ((g1 (4 : Int32).toNatClampNeg) + 1024)) : Int32).toInt64) (zx_mul (((zx_sin (g1 (4 : Int32).toNatClampNeg)) : Int32).toInt64) (((zx_sin (g1 (3 : Int32).toNatClampNeg)) : Int32).toInt64)) (zx_sin (g1 (5 : Int32).toNatClampNeg)) (zx_sin ((g1 (5 : Int32).toNatClampNeg) + 1024)) g2))))) _ (rfl) rfl ?_
  refine zr_aload_n F zd_XFixed_turn_87 rfl ?_
  refine zr_iconstv (v := 2) F zd_XFixed_turn_88 (by decide) ?_
  refine zr_iload F zd_XFixed_turn_89 rfl ?_
  refine zr_i2l F zd_XFixed_turn_91 ?_
  refine zr_iload F zd_XFixed_turn_92 rfl ?_
  refine zr_i2l F zd_XFixed_turn_94 ?_
  refine zr_callS1 F (c_XFixed_mul l D tA b _ _ (((zx_sin (g1 (4 : Int32).toNatClampNeg)) : Int32).toInt64) (((zx_sin ((g1 (3 : Int32).toNatClampNeg) + 1024)) : Int32).toInt64)  ) zd_XFixed_turn_95 zs_XFixed_36 zq_XFixed_mul rfl rfl ⟨(Nat.le_of_ble_eq_true rfl), (Nat.le_of_ble_eq_true rfl)⟩ (Nat.le_of_ble_eq_true rfl) ⟨(Nat.le_of_ble_eq_true rfl), (Nat.le_of_ble_eq_true rfl)⟩ ?_
  refine zr_l2i F zd_XFixed_turn_98 ?_
  refine zr_iast F zd_XFixed_turn_99 (zu_s _ _ _) (zx_in (by decide)) ?_
  refine zr_norm (zu (f) q2 (.inl (tA 0, 12, .inl (upd ((sg_XFixed_roll 0 (((zx_sin ((g1 (4 : Int32).toNatClampNeg) + 1024)) : Int32).toInt64) (zx_mul (((zx_sin (g1 (4 : Int32).toNatClampNeg)) : Int32).toInt64) (((zx_sin (g1 (3 : Int32).toNatClampNeg)) : Int32).toInt64)) (zx_sin (g1 (5 : Int32).toNatClampNeg)) (zx_sin ((g1 (5 : Int32).toNatClampNeg) + 1024)) g2)) ((2 : Int32).toNatClampNeg) (((zx_mul (((zx_sin (g1 (4 : Int32).toNatClampNeg)) : Int32).toInt64) (((zx_sin ((g1 (3 : Int32).toNatClampNeg) + 1024)) : Int32).toInt64)) : Int64).toInt32))))) _ (zu_zu _ _ _ _) rfl ?_
  refine zr_aload_n F zd_XFixed_turn_100 rfl ?_
  refine zr_iconstv (v := 4) F zd_XFixed_turn_101 (by decide) ?_
  refine zr_lconstv (v := 0) F zd_XFixed_turn_102 (by decide) ?_
  refine zr_iload F zd_XFixed_turn_103 rfl ?_
  refine zr_i2l F zd_XFixed_turn_105 ?_
  refine zr_iload F zd_XFixed_turn_106 rfl ?_
  refine zr_iload F zd_XFixed_turn_108 rfl ?_
  refine zr_callS0 F (e_XFixed_roll l D tA b _ _ q2 4 0 (((zx_sin ((g1 (3 : Int32).toNatClampNeg) + 1024)) : Int32).toInt64) (zx_sin (g1 (5 : Int32).toNatClampNeg)) (zx_sin ((g1 (5 : Int32).toNatClampNeg) + 1024)) (upd ((sg_XFixed_roll 0 (((zx_sin ((g1 (4 : Int32).toNatClampNeg) + 1024)) : Int32).toInt64) (zx_mul (((zx_sin (g1 (4 : Int32).toNatClampNeg)) : Int32).toInt64) (((zx_sin (g1 (3 : Int32).toNatClampNeg)) : Int32).toInt64)) (zx_sin (g1 (5 : Int32).toNatClampNeg)) (zx_sin ((g1 (5 : Int32).toNatClampNeg) + 1024)) g2)) ((2 : Int32).toNatClampNeg) (((zx_mul (((zx_sin (g1 (4 : Int32).toNatClampNeg)) : Int32).toInt64) (((zx_sin ((g1 (3 : Int32).toNatClampNeg) + 1024)) : Int32).toInt64)) : Int64).toInt32)) (zu_s _ _ _) (zx_in (by decide)) (zx_in (by decide))) zd_XFixed_turn_110 zs_XFixed_51 zq_XFixed_roll rfl rfl ⟨(Nat.le_of_ble_eq_true rfl), (Nat.le_of_ble_eq_true rfl)⟩ (Nat.le_of_ble_eq_true rfl) ⟨(Nat.le_of_ble_eq_true rfl), (Nat.le_of_ble_eq_true rfl)⟩ ?_
  refine zr_norm (zu (f) q2 (.inl (tA 0, 12, .inl ((sg_XFixed_roll 4 0 (((zx_sin ((g1 (3 : Int32).toNatClampNeg) + 1024)) : Int32).toInt64) (zx_sin (g1 (5 : Int32).toNatClampNeg)) (zx_sin ((g1 (5 : Int32).toNatClampNeg) + 1024)) (upd ((sg_XFixed_roll 0 (((zx_sin ((g1 (4 : Int32).toNatClampNeg) + 1024)) : Int32).toInt64) (zx_mul (((zx_sin (g1 (4 : Int32).toNatClampNeg)) : Int32).toInt64) (((zx_sin (g1 (3 : Int32).toNatClampNeg)) : Int32).toInt64)) (zx_sin (g1 (5 : Int32).toNatClampNeg)) (zx_sin ((g1 (5 : Int32).toNatClampNeg) + 1024)) g2)) ((2 : Int32).toNatClampNeg) (((zx_mul (((zx_sin (g1 (4 : Int32).toNatClampNeg)) : Int32).toInt64) (((zx_sin ((g1 (3 : Int32).toNatClampNeg) + 1024)) : Int32).toInt64)) : Int64).toInt32))))))) _ (zu_zu _ _ _ _) rfl ?_
  refine zr_aload_n F zd_XFixed_turn_113 rfl ?_
  refine zr_bipushv (v := 6) F zd_XFixed_turn_114 (by decide) ?_
  refine zr_iload_n F zd_XFixed_turn_116 rfl ?_
  refine zr_ineg F zd_XFixed_turn_117 ?_
  refine zr_iast F zd_XFixed_turn_118 (zu_s _ _ _) (zx_in (by decide)) ?_
  refine zr_norm (zu (f) q2 (.inl (tA 0, 12, .inl (upd ((sg_XFixed_roll 4 0 (((zx_sin ((g1 (3 : Int32).toNatClampNeg) + 1024)) : Int32).toInt64) (zx_sin (g1 (5 : Int32).toNatClampNeg)) (zx_sin ((g1 (5 : Int32).toNatClampNeg) + 1024)) (upd ((sg_XFixed_roll 0 (((zx_sin ((g1 (4 : Int32).toNatClampNeg) + 1024)) : Int32).toInt64) (zx_mul (((zx_sin (g1 (4 : Int32).toNatClampNeg)) : Int32).toInt64) (((zx_sin (g1 (3 : Int32).toNatClampNeg)) : Int32).toInt64)) (zx_sin (g1 (5 : Int32).toNatClampNeg)) (zx_sin ((g1 (5 : Int32).toNatClampNeg) + 1024)) g2)) ((2 : Int32).toNatClampNeg) (((zx_mul (((zx_sin (g1 (4 : Int32).toNatClampNeg)) : Int32).toInt64) (((zx_sin ((g1 (3 : Int32).toNatClampNeg) + 1024)) : Int32).toInt64)) : Int64).toInt32)))) ((6 : Int32).toNatClampNeg) ((-(zx_sin (g1 (3 : Int32).toNatClampNeg)))))))) _ (zu_zu _ _ _ _) rfl ?_
  refine zr_aload_n F zd_XFixed_turn_119 rfl ?_
  refine zr_bipushv (v := 8) F zd_XFixed_turn_120 (by decide) ?_
  refine zr_iload F zd_XFixed_turn_122 rfl ?_
  refine zr_ineg F zd_XFixed_turn_124 ?_
  refine zr_i2l F zd_XFixed_turn_125 ?_
  refine zr_iload F zd_XFixed_turn_126 rfl ?_
  refine zr_i2l F zd_XFixed_turn_128 ?_
  refine zr_iload_n F zd_XFixed_turn_129 rfl ?_
  refine zr_i2l F zd_XFixed_turn_130 ?_
  refine zr_callS1 F (c_XFixed_mul l D tA b _ _ (((zx_sin ((g1 (4 : Int32).toNatClampNeg) + 1024)) : Int32).toInt64) (((zx_sin (g1 (3 : Int32).toNatClampNeg)) : Int32).toInt64)  ) zd_XFixed_turn_131 zs_XFixed_36 zq_XFixed_mul rfl rfl ⟨(Nat.le_of_ble_eq_true rfl), (Nat.le_of_ble_eq_true rfl)⟩ (Nat.le_of_ble_eq_true rfl) ⟨(Nat.le_of_ble_eq_true rfl), (Nat.le_of_ble_eq_true rfl)⟩ ?_
  refine zr_iload F zd_XFixed_turn_134 rfl ?_
  refine zr_iload F zd_XFixed_turn_136 rfl ?_
  refine zr_callS0 F (e_XFixed_roll l D tA b _ _ q2 8 (((-(zx_sin (g1 (4 : Int32).toNatClampNeg))) : Int32).toInt64) (zx_mul (((zx_sin ((g1 (4 : Int32).toNatClampNeg) + 1024)) : Int32).toInt64) (((zx_sin (g1 (3 : Int32).toNatClampNeg)) : Int32).toInt64)) (zx_sin (g1 (5 : Int32).toNatClampNeg)) (zx_sin ((g1 (5 : Int32).toNatClampNeg) + 1024)) (upd ((sg_XFixed_roll 4 0 (((zx_sin ((g1 (3 : Int32).toNatClampNeg) + 1024)) : Int32).toInt64) (zx_sin (g1 (5 : Int32).toNatClampNeg)) (zx_sin ((g1 (5 : Int32).toNatClampNeg) + 1024)) (upd ((sg_XFixed_roll 0 (((zx_sin ((g1 (4 : Int32).toNatClampNeg) + 1024)) : Int32).toInt64) (zx_mul (((zx_sin (g1 (4 : Int32).toNatClampNeg)) : Int32).toInt64) (((zx_sin (g1 (3 : Int32).toNatClampNeg)) : Int32).toInt64)) (zx_sin (g1 (5 : Int32).toNatClampNeg)) (zx_sin ((g1 (5 : Int32).toNatClampNeg) + 1024)) g2)) ((2 : Int32).toNatClampNeg) (((zx_mul (((zx_sin (g1 (4 : Int32).toNatClampNeg)) : Int32).toInt64) (((zx_sin ((g1 (3 : Int32).toNatClampNeg) + 1024)) : Int32).toInt64)) : Int64).toInt32)))) ((6 : Int32).toNatClampNeg) ((-(zx_sin (g1 (3 : Int32).toNatClampNeg))))) (zu_s _ _ _) (zx_in (by decide)) (zx_in (by decide))) zd_XFixed_turn_138 zs_XFixed_51 zq_XFixed_roll rfl rfl ⟨(Nat.le_of_ble_eq_true rfl), (Nat.le_of_ble_eq_true rfl)⟩ (Nat.le_of_ble_eq_true rfl) ⟨(Nat.le_of_ble_eq_true rfl), (Nat.le_of_ble_eq_true rfl)⟩ ?_
  refine zr_norm (zu (f) q2 (.inl (tA 0, 12, .inl ((sg_XFixed_roll 8 (((-(zx_sin (g1 (4 : Int32).toNatClampNeg))) : Int32).toInt64) (zx_mul (((zx_sin ((g1 (4 : Int32).toNatClampNeg) + 1024)) : Int32).toInt64) (((zx_sin (g1 (3 : Int32).toNatClampNeg)) : Int32).toInt64)) (zx_sin (g1 (5 : Int32).toNatClampNeg)) (zx_sin ((g1 (5 : Int32).toNatClampNeg) + 1024)) (upd ((sg_XFixed_roll 4 0 (((zx_sin ((g1 (3 : Int32).toNatClampNeg) + 1024)) : Int32).toInt64) (zx_sin (g1 (5 : Int32).toNatClampNeg)) (zx_sin ((g1 (5 : Int32).toNatClampNeg) + 1024)) (upd ((sg_XFixed_roll 0 (((zx_sin ((g1 (4 : Int32).toNatClampNeg) + 1024)) : Int32).toInt64) (zx_mul (((zx_sin (g1 (4 : Int32).toNatClampNeg)) : Int32).toInt64) (((zx_sin (g1 (3 : Int32).toNatClampNeg)) : Int32).toInt64)) (zx_sin (g1 (5 : Int32).toNatClampNeg)) (zx_sin ((g1 (5 : Int32).toNatClampNeg) + 1024)) g2)) ((2 : Int32).toNatClampNeg) (((zx_mul (((zx_sin (g1 (4 : Int32).toNatClampNeg)) : Int32).toInt64) (((zx_sin ((g1 (3 : Int32).toNatClampNeg) + 1024)) : Int32).toInt64)) : Int64).toInt32)))) ((6 : Int32).toNatClampNeg) ((-(zx_sin (g1 (3 : Int32).toNatClampNeg)))))))))) _ (zu_zu _ _ _ _) rfl ?_
  refine zr_aload_n F zd_XFixed_turn_141 rfl ?_
  refine zr_bipushv (v := 10) F zd_XFixed_turn_142 (by decide) ?_
  refine zr_iload F zd_XFixed_turn_144 rfl ?_
  refine zr_i2l F zd_XFixed_turn_146 ?_
  refine zr_iload F zd_XFixed_turn_147 rfl ?_
  refine zr_i2l F zd_XFixed_turn_149 ?_
  refine zr_callS1 F (c_XFixed_mul l D tA b _ _ (((zx_sin ((g1 (4 : Int32).toNatClampNeg) + 1024)) : Int32).toInt64) (((zx_sin ((g1 (3 : Int32).toNatClampNeg) + 1024)) : Int32).toInt64)  ) zd_XFixed_turn_150 zs_XFixed_36 zq_XFixed_mul rfl rfl ⟨(Nat.le_of_ble_eq_true rfl), (Nat.le_of_ble_eq_true rfl)⟩ (Nat.le_of_ble_eq_true rfl) ⟨(Nat.le_of_ble_eq_true rfl), (Nat.le_of_ble_eq_true rfl)⟩ ?_
  refine zr_l2i F zd_XFixed_turn_153 ?_
  refine zr_iast F zd_XFixed_turn_154 (zu_s _ _ _) (zx_in (by decide)) ?_
  refine zr_norm (zu (f) q2 (.inl (tA 0, 12, .inl (upd ((sg_XFixed_roll 8 (((-(zx_sin (g1 (4 : Int32).toNatClampNeg))) : Int32).toInt64) (zx_mul (((zx_sin ((g1 (4 : Int32).toNatClampNeg) + 1024)) : Int32).toInt64) (((zx_sin (g1 (3 : Int32).toNatClampNeg)) : Int32).toInt64)) (zx_sin (g1 (5 : Int32).toNatClampNeg)) (zx_sin ((g1 (5 : Int32).toNatClampNeg) + 1024)) (upd ((sg_XFixed_roll 4 0 (((zx_sin ((g1 (3 : Int32).toNatClampNeg) + 1024)) : Int32).toInt64) (zx_sin (g1 (5 : Int32).toNatClampNeg)) (zx_sin ((g1 (5 : Int32).toNatClampNeg) + 1024)) (upd ((sg_XFixed_roll 0 (((zx_sin ((g1 (4 : Int32).toNatClampNeg) + 1024)) : Int32).toInt64) (zx_mul (((zx_sin (g1 (4 : Int32).toNatClampNeg)) : Int32).toInt64) (((zx_sin (g1 (3 : Int32).toNatClampNeg)) : Int32).toInt64)) (zx_sin (g1 (5 : Int32).toNatClampNeg)) (zx_sin ((g1 (5 : Int32).toNatClampNeg) + 1024)) g2)) ((2 : Int32).toNatClampNeg) (((zx_mul (((zx_sin (g1 (4 : Int32).toNatClampNeg)) : Int32).toInt64) (((zx_sin ((g1 (3 : Int32).toNatClampNeg) + 1024)) : Int32).toInt64)) : Int64).toInt32)))) ((6 : Int32).toNatClampNeg) ((-(zx_sin (g1 (3 : Int32).toNatClampNeg))))))) ((10 : Int32).toNatClampNeg) (((zx_mul (((zx_sin ((g1 (4 : Int32).toNatClampNeg) + 1024)) : Int32).toInt64) (((zx_sin ((g1 (3 : Int32).toNatClampNeg) + 1024)) : Int32).toInt64)) : Int64).toInt32))))) _ (zu_zu _ _ _ _) rfl ?_
  exact zr_vret F hr zd_XFixed_turn_155 (Nat.le_of_ble_eq_true rfl) (Nat.le_of_ble_eq_true rfl) ⟨rfl, rfl, rfl⟩
abbrev zb_XFixed_along : ByteArray := prog_2_method_6_code
def zy_XFixed_along : MethodName := ⟨"OrreryBox$Fixed", "along", "([IIJJJ)J"⟩
theorem zc_XFixed_along : Cond.code zy_XFixed_along zb_XFixed_along 8 (some .long) ∈ gw := gw_t 662 (by decide +kernel) rfl
theorem zq_XFixed_along : zy_XFixed_along.cls ≠ "java/lang/invoke/MethodHandle" ∧ zy_XFixed_along.cls ≠ "java/lang/invoke/VarHandle" ∧ (parseMethodDescriptor zy_XFixed_along.desc).map (fun d => d.parameters.length) = some 5 := by decide +kernel
theorem zd_XFixed_along_0 : decode zb_XFixed_along 0 = .ok (.aload_n 0, 1) := by decide +kernel
theorem zd_XFixed_along_1 : decode zb_XFixed_along 1 = .ok (.iconst 4, 1) := by decide +kernel
theorem zd_XFixed_along_2 : decode zb_XFixed_along 2 = .ok (.iload_n 1, 1) := by decide +kernel
theorem zd_XFixed_along_3 : decode zb_XFixed_along 3 = .ok (.imul, 1) := by decide +kernel
theorem zd_XFixed_along_4 : decode zb_XFixed_along 4 = .ok (.iaload, 1) := by decide +kernel
theorem zd_XFixed_along_5 : decode zb_XFixed_along 5 = .ok (.i2l, 1) := by decide +kernel
theorem zd_XFixed_along_6 : decode zb_XFixed_along 6 = .ok (.lload_n 2, 1) := by decide +kernel
theorem zd_XFixed_along_7 : decode zb_XFixed_along 7 = .ok (.invokestatic 36, 3) := by decide +kernel
theorem zd_XFixed_along_10 : decode zb_XFixed_along 10 = .ok (.aload_n 0, 1) := by decide +kernel
theorem zd_XFixed_along_11 : decode zb_XFixed_along 11 = .ok (.iconst 4, 1) := by decide +kernel
theorem zd_XFixed_along_12 : decode zb_XFixed_along 12 = .ok (.iload_n 1, 1) := by decide +kernel
theorem zd_XFixed_along_13 : decode zb_XFixed_along 13 = .ok (.imul, 1) := by decide +kernel
theorem zd_XFixed_along_14 : decode zb_XFixed_along 14 = .ok (.iconst 1, 1) := by decide +kernel
theorem zd_XFixed_along_15 : decode zb_XFixed_along 15 = .ok (.iadd, 1) := by decide +kernel
theorem zd_XFixed_along_16 : decode zb_XFixed_along 16 = .ok (.iaload, 1) := by decide +kernel
theorem zd_XFixed_along_17 : decode zb_XFixed_along 17 = .ok (.i2l, 1) := by decide +kernel
theorem zd_XFixed_along_18 : decode zb_XFixed_along 18 = .ok (.lload 4, 2) := by decide +kernel
theorem zd_XFixed_along_20 : decode zb_XFixed_along 20 = .ok (.invokestatic 36, 3) := by decide +kernel
theorem zd_XFixed_along_23 : decode zb_XFixed_along 23 = .ok (.ladd, 1) := by decide +kernel
theorem zd_XFixed_along_24 : decode zb_XFixed_along 24 = .ok (.aload_n 0, 1) := by decide +kernel
theorem zd_XFixed_along_25 : decode zb_XFixed_along 25 = .ok (.iconst 4, 1) := by decide +kernel
theorem zd_XFixed_along_26 : decode zb_XFixed_along 26 = .ok (.iload_n 1, 1) := by decide +kernel
theorem zd_XFixed_along_27 : decode zb_XFixed_along 27 = .ok (.imul, 1) := by decide +kernel
theorem zd_XFixed_along_28 : decode zb_XFixed_along 28 = .ok (.iconst 2, 1) := by decide +kernel
theorem zd_XFixed_along_29 : decode zb_XFixed_along 29 = .ok (.iadd, 1) := by decide +kernel
theorem zd_XFixed_along_30 : decode zb_XFixed_along 30 = .ok (.iaload, 1) := by decide +kernel
theorem zd_XFixed_along_31 : decode zb_XFixed_along 31 = .ok (.i2l, 1) := by decide +kernel
theorem zd_XFixed_along_32 : decode zb_XFixed_along 32 = .ok (.lload 6, 2) := by decide +kernel
theorem zd_XFixed_along_34 : decode zb_XFixed_along 34 = .ok (.invokestatic 36, 3) := by decide +kernel
theorem zd_XFixed_along_37 : decode zb_XFixed_along 37 = .ok (.ladd, 1) := by decide +kernel
theorem zd_XFixed_along_38 : decode zb_XFixed_along 38 = .ok (.lreturn, 1) := by decide +kernel
def sp_e_XFixed_along (i : Int32) (x : Int64) (y : Int64) (z : Int64) (g : Nat → Int32) : Int64 := (((zx_mul (((g ((4 * i) : Int32).toNatClampNeg) : Int32).toInt64) x) + (zx_mul (((g (((4 * i) + 1) : Int32).toNatClampNeg) : Int32).toInt64) y)) + (zx_mul (((g (((4 * i) + 2) : Int32).toNatClampNeg) : Int32).toInt64) z))
set_option maxHeartbeats 4000000 in
set_option maxRecDepth 100000 in
theorem e_XFixed_along (l : Launch) (D : va_G) (tA : Nat → ClassId) (b : Nat) (f : zV) (n : Nat) (q : Nat) (i : Int32) (x : Int64) (y : Int64) (z : Int64) (g : Nat → Int32) (hq : f q = some (.inl (tA 0, 12, .inl (g)))) (hi : vp_in (4 * i) 12) (hj : vp_in (4 * i + 1) 12) (hk : vp_in (4 * i + 2) 12) : zM l D tA b zy_XFixed_along zb_XFixed_along 8 (some .long) 1 23 0 0 [.ref (b + q), .int i, .long x, .long y, .long z] f n (zE (some (.long (sp_e_XFixed_along i x y z g))) f n) := by
  refine zM_of (own := "OrreryBox$Fixed") (plainFor_of_name (by decide)) rfl (Nat.le_of_ble_eq_true rfl) (fun p e s m below meth c F hr hin hH => ?_)
  refine zr_aload_n F zd_XFixed_along_0 rfl ?_
  refine zr_iconstv (v := 4) F zd_XFixed_along_1 (by decide) ?_
  refine zr_iload_n F zd_XFixed_along_2 rfl ?_
  refine zr_imul F zd_XFixed_along_3 ?_
  refine zr_iald F zd_XFixed_along_4 hq hi ?_
  refine zr_i2l F zd_XFixed_along_5 ?_
  refine zr_lload_n F zd_XFixed_along_6 rfl ?_
  refine zr_callS1 F (c_XFixed_mul l D tA b _ _ (((g ((4 * i) : Int32).toNatClampNeg) : Int32).toInt64) x  ) zd_XFixed_along_7 zs_XFixed_36 zq_XFixed_mul rfl rfl ⟨(Nat.le_of_ble_eq_true rfl), (Nat.le_of_ble_eq_true rfl)⟩ (Nat.le_of_ble_eq_true rfl) ⟨(Nat.le_of_ble_eq_true rfl), (Nat.le_of_ble_eq_true rfl)⟩ ?_
  refine zr_aload_n F zd_XFixed_along_10 rfl ?_
  refine zr_iconstv (v := 4) F zd_XFixed_along_11 (by decide) ?_
  refine zr_iload_n F zd_XFixed_along_12 rfl ?_
  refine zr_imul F zd_XFixed_along_13 ?_
  refine zr_iconstv (v := 1) F zd_XFixed_along_14 (by decide) ?_
  refine zr_iadd F zd_XFixed_along_15 ?_
  refine zr_iald F zd_XFixed_along_16 hq hj ?_
  refine zr_i2l F zd_XFixed_along_17 ?_
  refine zr_lload F zd_XFixed_along_18 rfl ?_
  refine zr_callS1 F (c_XFixed_mul l D tA b _ _ (((g (((4 * i) + 1) : Int32).toNatClampNeg) : Int32).toInt64) y  ) zd_XFixed_along_20 zs_XFixed_36 zq_XFixed_mul rfl rfl ⟨(Nat.le_of_ble_eq_true rfl), (Nat.le_of_ble_eq_true rfl)⟩ (Nat.le_of_ble_eq_true rfl) ⟨(Nat.le_of_ble_eq_true rfl), (Nat.le_of_ble_eq_true rfl)⟩ ?_
  refine zr_ladd F zd_XFixed_along_23 ?_
  refine zr_aload_n F zd_XFixed_along_24 rfl ?_
  refine zr_iconstv (v := 4) F zd_XFixed_along_25 (by decide) ?_
  refine zr_iload_n F zd_XFixed_along_26 rfl ?_
  refine zr_imul F zd_XFixed_along_27 ?_
  refine zr_iconstv (v := 2) F zd_XFixed_along_28 (by decide) ?_
  refine zr_iadd F zd_XFixed_along_29 ?_
  refine zr_iald F zd_XFixed_along_30 hq hk ?_
  refine zr_i2l F zd_XFixed_along_31 ?_
  refine zr_lload F zd_XFixed_along_32 rfl ?_
  refine zr_callS1 F (c_XFixed_mul l D tA b _ _ (((g (((4 * i) + 2) : Int32).toNatClampNeg) : Int32).toInt64) z  ) zd_XFixed_along_34 zs_XFixed_36 zq_XFixed_mul rfl rfl ⟨(Nat.le_of_ble_eq_true rfl), (Nat.le_of_ble_eq_true rfl)⟩ (Nat.le_of_ble_eq_true rfl) ⟨(Nat.le_of_ble_eq_true rfl), (Nat.le_of_ble_eq_true rfl)⟩ ?_
  refine zr_ladd F zd_XFixed_along_37 ?_
  exact zr_lret F hr zd_XFixed_along_38 (Nat.le_of_ble_eq_true rfl) (Nat.le_of_ble_eq_true rfl) ⟨rfl, rfl, rfl⟩
abbrev zb_XSight_swapAcross : ByteArray := prog_10_method_4_code
def zy_XSight_swapAcross : MethodName := ⟨"OrreryBox$Sight", "swapAcross", "(II)V"⟩
theorem zc_XSight_swapAcross : Cond.code zy_XSight_swapAcross zb_XSight_swapAcross 4 none ∈ gw := gw_t 676 (by decide +kernel) rfl
theorem zq_XSight_swapAcross : zy_XSight_swapAcross.cls ≠ "java/lang/invoke/MethodHandle" ∧ zy_XSight_swapAcross.cls ≠ "java/lang/invoke/VarHandle" ∧ (parseMethodDescriptor zy_XSight_swapAcross.desc).map (fun d => d.parameters.length) = some 2 := by decide +kernel
theorem zd_XSight_swapAcross_0 : decode zb_XSight_swapAcross 0 = .ok (.aload_n 0, 1) := by decide +kernel
theorem zd_XSight_swapAcross_1 : decode zb_XSight_swapAcross 1 = .ok (.getfield 22, 3) := by decide +kernel
theorem zd_XSight_swapAcross_4 : decode zb_XSight_swapAcross 4 = .ok (.iload_n 1, 1) := by decide +kernel
theorem zd_XSight_swapAcross_5 : decode zb_XSight_swapAcross 5 = .ok (.iaload, 1) := by decide +kernel
theorem zd_XSight_swapAcross_6 : decode zb_XSight_swapAcross 6 = .ok (.istore_n 3, 1) := by decide +kernel
theorem zd_XSight_swapAcross_7 : decode zb_XSight_swapAcross 7 = .ok (.aload_n 0, 1) := by decide +kernel
theorem zd_XSight_swapAcross_8 : decode zb_XSight_swapAcross 8 = .ok (.getfield 22, 3) := by decide +kernel
theorem zd_XSight_swapAcross_11 : decode zb_XSight_swapAcross 11 = .ok (.iload_n 1, 1) := by decide +kernel
theorem zd_XSight_swapAcross_12 : decode zb_XSight_swapAcross 12 = .ok (.aload_n 0, 1) := by decide +kernel
theorem zd_XSight_swapAcross_13 : decode zb_XSight_swapAcross 13 = .ok (.getfield 22, 3) := by decide +kernel
theorem zd_XSight_swapAcross_16 : decode zb_XSight_swapAcross 16 = .ok (.iload_n 2, 1) := by decide +kernel
theorem zd_XSight_swapAcross_17 : decode zb_XSight_swapAcross 17 = .ok (.iaload, 1) := by decide +kernel
theorem zd_XSight_swapAcross_18 : decode zb_XSight_swapAcross 18 = .ok (.iastore, 1) := by decide +kernel
theorem zd_XSight_swapAcross_19 : decode zb_XSight_swapAcross 19 = .ok (.aload_n 0, 1) := by decide +kernel
theorem zd_XSight_swapAcross_20 : decode zb_XSight_swapAcross 20 = .ok (.getfield 22, 3) := by decide +kernel
theorem zd_XSight_swapAcross_23 : decode zb_XSight_swapAcross 23 = .ok (.iload_n 2, 1) := by decide +kernel
theorem zd_XSight_swapAcross_24 : decode zb_XSight_swapAcross 24 = .ok (.iload_n 3, 1) := by decide +kernel
theorem zd_XSight_swapAcross_25 : decode zb_XSight_swapAcross 25 = .ok (.iastore, 1) := by decide +kernel
theorem zd_XSight_swapAcross_26 : decode zb_XSight_swapAcross 26 = .ok (.return_, 1) := by decide +kernel
def sg_XSight_swapAcross (i : Int32) (j : Int32) (g : Nat → Int32) : Nat → Int32 := upd (upd (g) ((i : Int32).toNatClampNeg) ((g (j : Int32).toNatClampNeg))) ((j : Int32).toNatClampNeg) ((g (i : Int32).toNatClampNeg))
set_option maxHeartbeats 4000000 in
set_option maxRecDepth 100000 in
theorem e_XSight_swapAcross (l : Launch) (D : va_G) (tA : Nat → ClassId) (b : Nat) (f : zV) (n : Nat) (i : Int32) (j : Int32) (fc : Int32) (c1 : Nat) (cc : Int32) (se : Int32) (w : Int32) (h : Int32) (sc : Value) (sn : Int32) (pl : Int32) (c2 : Nat) (g : Nat → Int32) (hg : f 1121 = some (.inr (9, [.ref (b + 1122), .int fc, .ref (b + c1), .int cc, .int se, .int w, .int h, sc, .ref (b + (1122 + 3)), .ref (b + (1122 + 4)), .ref (b + (1122 + 53)), .int sn, .int pl, .ref (b + (1122 + 54)), .ref (b + c2)]))) (hv : f ((1122 + 3)) = some (.inl (tA 0, 12, .inl (g)))) (hi : vp_in i 12) (hj : vp_in j 12) : zM l D tA b zy_XSight_swapAcross zb_XSight_swapAcross 4 none 0 0 0 0 [.ref (b + 1121), .int i, .int j] f n (zE none (zu (f) ((1122 + 3)) (.inl (tA 0, 12, .inl ((sg_XSight_swapAcross i j g))))) n) := by
  refine zM_of (own := "OrreryBox$Sight") (plainFor_of_name (by decide)) rfl (Nat.le_of_ble_eq_true rfl) (fun p e s m below meth c F hr hin hH => ?_)
  refine zr_aload_n F zd_XSight_swapAcross_0 rfl ?_
  refine zr_get F 9 8 zd_XSight_swapAcross_1 hg rfl (by decide) zw_381 rfl (by rfl) ?_
  refine zr_iload_n F zd_XSight_swapAcross_4 rfl ?_
  refine zr_iald F zd_XSight_swapAcross_5 hv hi ?_
  refine zr_istore_n F zd_XSight_swapAcross_6 (by decide) ?_
  refine zr_aload_n F zd_XSight_swapAcross_7 rfl ?_
  refine zr_get F 9 8 zd_XSight_swapAcross_8 hg rfl (by decide) zw_381 rfl (by rfl) ?_
  refine zr_iload_n F zd_XSight_swapAcross_11 rfl ?_
  refine zr_aload_n F zd_XSight_swapAcross_12 rfl ?_
  refine zr_get F 9 8 zd_XSight_swapAcross_13 hg rfl (by decide) zw_381 rfl (by rfl) ?_
  refine zr_iload_n F zd_XSight_swapAcross_16 rfl ?_
  refine zr_iald F zd_XSight_swapAcross_17 hv hj ?_
  refine zr_iast F zd_XSight_swapAcross_18 hv hi ?_
  refine zr_norm (zu (f) ((1122 + 3)) (.inl (tA 0, 12, .inl (upd (g) ((i : Int32).toNatClampNeg) ((g (j : Int32).toNatClampNeg)))))) _ (rfl) rfl ?_
  refine zr_aload_n F zd_XSight_swapAcross_19 rfl ?_
  refine zr_get F 9 8 zd_XSight_swapAcross_20 ((zu_n _ (by omega)).trans hg) rfl (by decide) zw_381 rfl (by rfl) ?_
  refine zr_iload_n F zd_XSight_swapAcross_23 rfl ?_
  refine zr_iload_n F zd_XSight_swapAcross_24 rfl ?_
  refine zr_iast F zd_XSight_swapAcross_25 (zu_s _ _ _) hj ?_
  refine zr_norm (zu (f) ((1122 + 3)) (.inl (tA 0, 12, .inl (upd (upd (g) ((i : Int32).toNatClampNeg) ((g (j : Int32).toNatClampNeg))) ((j : Int32).toNatClampNeg) ((g (i : Int32).toNatClampNeg)))))) _ (zu_zu _ _ _ _) rfl ?_
  exact zr_vret F hr zd_XSight_swapAcross_26 (Nat.le_of_ble_eq_true rfl) (Nat.le_of_ble_eq_true rfl) ⟨rfl, rfl, rfl⟩
abbrev zb_XSight_placeView : ByteArray := prog_10_method_3_code
def zy_XSight_placeView : MethodName := ⟨"OrreryBox$Sight", "placeView", "()V"⟩
theorem zc_XSight_placeView : Cond.code zy_XSight_placeView zb_XSight_placeView 3 none ∈ gw := gw_t 671 (by decide +kernel) rfl
theorem zq_XSight_placeView : zy_XSight_placeView.cls ≠ "java/lang/invoke/MethodHandle" ∧ zy_XSight_placeView.cls ≠ "java/lang/invoke/VarHandle" ∧ (parseMethodDescriptor zy_XSight_placeView.desc).map (fun d => d.parameters.length) = some 0 := by decide +kernel
theorem zd_XSight_placeView_0 : decode zb_XSight_placeView 0 = .ok (.aload_n 0, 1) := by decide +kernel
theorem zd_XSight_placeView_1 : decode zb_XSight_placeView 1 = .ok (.getfield 49, 3) := by decide +kernel
theorem zd_XSight_placeView_4 : decode zb_XSight_placeView 4 = .ok (.getfield 102, 3) := by decide +kernel
theorem zd_XSight_placeView_7 : decode zb_XSight_placeView 7 = .ok (.astore_n 1, 1) := by decide +kernel
theorem zd_XSight_placeView_8 : decode zb_XSight_placeView 8 = .ok (.aload_n 1, 1) := by decide +kernel
theorem zd_XSight_placeView_9 : decode zb_XSight_placeView 9 = .ok (.iconst 3, 1) := by decide +kernel
theorem zd_XSight_placeView_10 : decode zb_XSight_placeView 10 = .ok (.aload_n 0, 1) := by decide +kernel
theorem zd_XSight_placeView_11 : decode zb_XSight_placeView 11 = .ok (.getfield 22, 3) := by decide +kernel
theorem zd_XSight_placeView_14 : decode zb_XSight_placeView 14 = .ok (.invokestatic 105, 3) := by decide +kernel
theorem zd_XSight_placeView_17 : decode zb_XSight_placeView 17 = .ok (.aload_n 0, 1) := by decide +kernel
theorem zd_XSight_placeView_18 : decode zb_XSight_placeView 18 = .ok (.iconst 1, 1) := by decide +kernel
theorem zd_XSight_placeView_19 : decode zb_XSight_placeView 19 = .ok (.iconst 4, 1) := by decide +kernel
theorem zd_XSight_placeView_20 : decode zb_XSight_placeView 20 = .ok (.invokevirtual 109, 3) := by decide +kernel
theorem zd_XSight_placeView_23 : decode zb_XSight_placeView 23 = .ok (.aload_n 0, 1) := by decide +kernel
theorem zd_XSight_placeView_24 : decode zb_XSight_placeView 24 = .ok (.iconst 2, 1) := by decide +kernel
theorem zd_XSight_placeView_25 : decode zb_XSight_placeView 25 = .ok (.bipush 8, 2) := by decide +kernel
theorem zd_XSight_placeView_27 : decode zb_XSight_placeView 27 = .ok (.invokevirtual 109, 3) := by decide +kernel
theorem zd_XSight_placeView_30 : decode zb_XSight_placeView 30 = .ok (.aload_n 0, 1) := by decide +kernel
theorem zd_XSight_placeView_31 : decode zb_XSight_placeView 31 = .ok (.bipush 6, 2) := by decide +kernel
theorem zd_XSight_placeView_33 : decode zb_XSight_placeView 33 = .ok (.bipush 9, 2) := by decide +kernel
theorem zd_XSight_placeView_35 : decode zb_XSight_placeView 35 = .ok (.invokevirtual 109, 3) := by decide +kernel
theorem zd_XSight_placeView_38 : decode zb_XSight_placeView 38 = .ok (.iconst 0, 1) := by decide +kernel
theorem zd_XSight_placeView_39 : decode zb_XSight_placeView 39 = .ok (.istore_n 2, 1) := by decide +kernel
theorem zd_XSight_placeView_40 : decode zb_XSight_placeView 40 = .ok (.iload_n 2, 1) := by decide +kernel
theorem zd_XSight_placeView_41 : decode zb_XSight_placeView 41 = .ok (.iconst 3, 1) := by decide +kernel
theorem zd_XSight_placeView_42 : decode zb_XSight_placeView 42 = .ok (.if_icmp .ge 43, 3) := by decide +kernel
theorem zd_XSight_placeView_45 : decode zb_XSight_placeView 45 = .ok (.aload_n 0, 1) := by decide +kernel
theorem zd_XSight_placeView_46 : decode zb_XSight_placeView 46 = .ok (.getfield 22, 3) := by decide +kernel
theorem zd_XSight_placeView_49 : decode zb_XSight_placeView 49 = .ok (.iconst 4, 1) := by decide +kernel
theorem zd_XSight_placeView_50 : decode zb_XSight_placeView 50 = .ok (.iload_n 2, 1) := by decide +kernel
theorem zd_XSight_placeView_51 : decode zb_XSight_placeView 51 = .ok (.imul, 1) := by decide +kernel
theorem zd_XSight_placeView_52 : decode zb_XSight_placeView 52 = .ok (.iconst 3, 1) := by decide +kernel
theorem zd_XSight_placeView_53 : decode zb_XSight_placeView 53 = .ok (.iadd, 1) := by decide +kernel
theorem zd_XSight_placeView_54 : decode zb_XSight_placeView 54 = .ok (.aload_n 0, 1) := by decide +kernel
theorem zd_XSight_placeView_55 : decode zb_XSight_placeView 55 = .ok (.getfield 22, 3) := by decide +kernel
theorem zd_XSight_placeView_58 : decode zb_XSight_placeView 58 = .ok (.iload_n 2, 1) := by decide +kernel
theorem zd_XSight_placeView_59 : decode zb_XSight_placeView 59 = .ok (.aload_n 1, 1) := by decide +kernel
theorem zd_XSight_placeView_60 : decode zb_XSight_placeView 60 = .ok (.iconst 0, 1) := by decide +kernel
theorem zd_XSight_placeView_61 : decode zb_XSight_placeView 61 = .ok (.iaload, 1) := by decide +kernel
theorem zd_XSight_placeView_62 : decode zb_XSight_placeView 62 = .ok (.i2l, 1) := by decide +kernel
theorem zd_XSight_placeView_63 : decode zb_XSight_placeView 63 = .ok (.aload_n 1, 1) := by decide +kernel
theorem zd_XSight_placeView_64 : decode zb_XSight_placeView 64 = .ok (.iconst 1, 1) := by decide +kernel
theorem zd_XSight_placeView_65 : decode zb_XSight_placeView 65 = .ok (.iaload, 1) := by decide +kernel
theorem zd_XSight_placeView_66 : decode zb_XSight_placeView 66 = .ok (.i2l, 1) := by decide +kernel
theorem zd_XSight_placeView_67 : decode zb_XSight_placeView 67 = .ok (.aload_n 1, 1) := by decide +kernel
theorem zd_XSight_placeView_68 : decode zb_XSight_placeView 68 = .ok (.iconst 2, 1) := by decide +kernel
theorem zd_XSight_placeView_69 : decode zb_XSight_placeView 69 = .ok (.iaload, 1) := by decide +kernel
theorem zd_XSight_placeView_70 : decode zb_XSight_placeView 70 = .ok (.i2l, 1) := by decide +kernel
theorem zd_XSight_placeView_71 : decode zb_XSight_placeView 71 = .ok (.invokestatic 113, 3) := by decide +kernel
theorem zd_XSight_placeView_74 : decode zb_XSight_placeView 74 = .ok (.lneg, 1) := by decide +kernel
theorem zd_XSight_placeView_75 : decode zb_XSight_placeView 75 = .ok (.invokestatic 117, 3) := by decide +kernel
theorem zd_XSight_placeView_78 : decode zb_XSight_placeView 78 = .ok (.iastore, 1) := by decide +kernel
theorem zd_XSight_placeView_79 : decode zb_XSight_placeView 79 = .ok (.iinc 2 1, 3) := by decide +kernel
theorem zd_XSight_placeView_82 : decode zb_XSight_placeView 82 = .ok (.goto (-42), 3) := by decide +kernel
theorem zd_XSight_placeView_85 : decode zb_XSight_placeView 85 = .ok (.return_, 1) := by decide +kernel
theorem zw_380 : (Jvm.Cond.fieldLink "OrreryBox$Sight" (49 : Nat) "OrreryBox$Sight" "scene" "LOrreryBox$Scene;") ∈ gw := gw_t 380 (by decide +kernel) rfl
theorem zw_302 : (Jvm.Cond.fieldLink "OrreryBox$Sight" (102 : Nat) "OrreryBox$Scene" "viewer" "[I") ∈ gw := gw_t 302 (by decide +kernel) rfl
theorem zw_672 : (Jvm.Cond.methodLink "OrreryBox$Sight" (105 : Nat) ({ cls := "OrreryBox$Fixed", name := "turn", desc := "([II[I)V" } : Jvm.MethodName)) ∈ gw := gw_t 672 (by decide +kernel) rfl
theorem zw_631 : (Jvm.Cond.static ({ cls := "OrreryBox$Fixed", name := "turn", desc := "([II[I)V" } : Jvm.MethodName)) ∈ gw := gw_t 631 (by decide +kernel) rfl
theorem zs_XSight_105 : zwS "OrreryBox$Sight" 105 zy_XFixed_turn zb_XFixed_turn 9 none := ⟨zw_672, zw_631, zw_27, zc_XFixed_turn⟩
theorem zw_673 : (Jvm.Cond.methodLink "OrreryBox$Sight" (109 : Nat) ({ cls := "OrreryBox$Sight", name := "swapAcross", desc := "(II)V" } : Jvm.MethodName)) ∈ gw := gw_t 673 (by decide +kernel) rfl
theorem zw_675 : (Jvm.Cond.instanceMethod ({ cls := "OrreryBox$Sight", name := "swapAcross", desc := "(II)V" } : Jvm.MethodName)) ∈ gw := gw_t 675 (by decide +kernel) rfl
theorem zv_5 : (Jvm.Cond.selects "OrreryBox$Sight" (⟨"OrreryBox$Sight", "swapAcross", "(II)V"⟩ : MethodName) ⟨"OrreryBox$Sight", "swapAcross", "(II)V"⟩) ∈ gw := gw_s 5 (by decide +kernel) rfl
theorem zs_XSight_109 : zwV "OrreryBox$Sight" 109 "OrreryBox$Sight" zy_XSight_swapAcross zb_XSight_swapAcross 4 none := ⟨zw_673, zw_675, zv_5, zw_10, zc_XSight_swapAcross⟩
theorem zw_677 : (Jvm.Cond.methodLink "OrreryBox$Sight" (113 : Nat) ({ cls := "OrreryBox$Fixed", name := "along", desc := "([IIJJJ)J" } : Jvm.MethodName)) ∈ gw := gw_t 677 (by decide +kernel) rfl
theorem zw_661 : (Jvm.Cond.static ({ cls := "OrreryBox$Fixed", name := "along", desc := "([IIJJJ)J" } : Jvm.MethodName)) ∈ gw := gw_t 661 (by decide +kernel) rfl
theorem zs_XSight_113 : zwS "OrreryBox$Sight" 113 zy_XFixed_along zb_XFixed_along 8 (some .long) := ⟨zw_677, zw_661, zw_27, zc_XFixed_along⟩
theorem zw_678 : (Jvm.Cond.methodLink "OrreryBox$Sight" (117 : Nat) ({ cls := "OrreryBox$Fixed", name := "bound", desc := "(J)I" } : Jvm.MethodName)) ∈ gw := gw_t 678 (by decide +kernel) rfl
theorem zw_647 : (Jvm.Cond.static ({ cls := "OrreryBox$Fixed", name := "bound", desc := "(J)I" } : Jvm.MethodName)) ∈ gw := gw_t 647 (by decide +kernel) rfl
theorem zs_XSight_117 : zwS "OrreryBox$Sight" 117 zy_XFixed_bound zb_XFixed_bound 2 (some .int) := ⟨zw_678, zw_647, zw_27, zc_XFixed_bound⟩
def sg_XSight_placeView (gv : Nat → Int32) (g : Nat → Int32) : Nat → Int32 := upd (upd (upd ((sg_XSight_swapAcross 6 9 (sg_XSight_swapAcross 2 8 (sg_XSight_swapAcross 1 4 (sg_XFixed_turn gv g))))) ((3 : Int32).toNatClampNeg) ((zx_bound (-(sp_e_XFixed_along 0 (((gv (0 : Int32).toNatClampNeg) : Int32).toInt64) (((gv (1 : Int32).toNatClampNeg) : Int32).toInt64) (((gv (2 : Int32).toNatClampNeg) : Int32).toInt64) (sg_XSight_swapAcross 6 9 (sg_XSight_swapAcross 2 8 (sg_XSight_swapAcross 1 4 (sg_XFixed_turn gv g))))))))) ((7 : Int32).toNatClampNeg) ((zx_bound (-(sp_e_XFixed_along 1 (((gv (0 : Int32).toNatClampNeg) : Int32).toInt64) (((gv (1 : Int32).toNatClampNeg) : Int32).toInt64) (((gv (2 : Int32).toNatClampNeg) : Int32).toInt64) (upd ((sg_XSight_swapAcross 6 9 (sg_XSight_swapAcross 2 8 (sg_XSight_swapAcross 1 4 (sg_XFixed_turn gv g))))) ((3 : Int32).toNatClampNeg) ((zx_bound (-(sp_e_XFixed_along 0 (((gv (0 : Int32).toNatClampNeg) : Int32).toInt64) (((gv (1 : Int32).toNatClampNeg) : Int32).toInt64) (((gv (2 : Int32).toNatClampNeg) : Int32).toInt64) (sg_XSight_swapAcross 6 9 (sg_XSight_swapAcross 2 8 (sg_XSight_swapAcross 1 4 (sg_XFixed_turn gv g)))))))))))))) ((11 : Int32).toNatClampNeg) ((zx_bound (-(sp_e_XFixed_along 2 (((gv (0 : Int32).toNatClampNeg) : Int32).toInt64) (((gv (1 : Int32).toNatClampNeg) : Int32).toInt64) (((gv (2 : Int32).toNatClampNeg) : Int32).toInt64) (upd (upd ((sg_XSight_swapAcross 6 9 (sg_XSight_swapAcross 2 8 (sg_XSight_swapAcross 1 4 (sg_XFixed_turn gv g))))) ((3 : Int32).toNatClampNeg) ((zx_bound (-(sp_e_XFixed_along 0 (((gv (0 : Int32).toNatClampNeg) : Int32).toInt64) (((gv (1 : Int32).toNatClampNeg) : Int32).toInt64) (((gv (2 : Int32).toNatClampNeg) : Int32).toInt64) (sg_XSight_swapAcross 6 9 (sg_XSight_swapAcross 2 8 (sg_XSight_swapAcross 1 4 (sg_XFixed_turn gv g))))))))) ((7 : Int32).toNatClampNeg) ((zx_bound (-(sp_e_XFixed_along 1 (((gv (0 : Int32).toNatClampNeg) : Int32).toInt64) (((gv (1 : Int32).toNatClampNeg) : Int32).toInt64) (((gv (2 : Int32).toNatClampNeg) : Int32).toInt64) (upd ((sg_XSight_swapAcross 6 9 (sg_XSight_swapAcross 2 8 (sg_XSight_swapAcross 1 4 (sg_XFixed_turn gv g))))) ((3 : Int32).toNatClampNeg) ((zx_bound (-(sp_e_XFixed_along 0 (((gv (0 : Int32).toNatClampNeg) : Int32).toInt64) (((gv (1 : Int32).toNatClampNeg) : Int32).toInt64) (((gv (2 : Int32).toNatClampNeg) : Int32).toInt64) (sg_XSight_swapAcross 6 9 (sg_XSight_swapAcross 2 8 (sg_XSight_swapAcross 1 4 (sg_XFixed_turn gv g))))))))))))))))))
set_option maxHeartbeats 4000000 in
set_option maxRecDepth 100000 in
theorem e_XSight_placeView (l : Launch) (D : va_G) (tA : Nat → ClassId) (b : Nat) (f : zV) (n : Nat) (fc : Int32) (c1 : Nat) (cc : Int32) (se : Int32) (w : Int32) (h : Int32) (sn : Int32) (pl : Int32) (c2 : Nat) (nw : Int32) (pd : Int32) (gv : Nat → Int32) (g : Nat → Int32) (hg : f 1121 = some (.inr (9, [.ref (b + 1122), .int fc, .ref (b + c1), .int cc, .int se, .int w, .int h, .ref (b + 11), .ref (b + (1122 + 3)), .ref (b + (1122 + 4)), .ref (b + (1122 + 53)), .int sn, .int pl, .ref (b + (1122 + 54)), .ref (b + c2)]))) (hv : f ((1122 + 3)) = some (.inl (tA 0, 12, .inl (g)))) (hs : f 11 = some (.inr (8, zsO b 12 nw pd))) (hw : f ((12 + 22)) = some (.inl (tA 0, 7, .inl (gv))))  : zM l D tA b zy_XSight_placeView zb_XSight_placeView 3 none 4 102 0 0 [.ref (b + 1121)] f n (zE none (zu (f) ((1122 + 3)) (.inl (tA 0, 12, .inl ((sg_XSight_placeView gv g))))) n) := by
  refine zM_of (own := "OrreryBox$Sight") (plainFor_of_name (by decide)) rfl (Nat.le_of_ble_eq_true rfl) (fun p e s m below meth c F hr hin hH => ?_)
  refine zr_aload_n F zd_XSight_placeView_0 rfl ?_
  refine zr_get F 9 7 zd_XSight_placeView_1 hg rfl (by decide) zw_380 rfl (by rfl) ?_
  refine zr_get F 8 6 zd_XSight_placeView_4 hs rfl (by decide) zw_302 rfl (by rfl) ?_
  refine zr_astore_n F zd_XSight_placeView_7 (by decide) ?_
  refine zr_aload_n F zd_XSight_placeView_8 rfl ?_
  refine zr_iconstv (v := 3) F zd_XSight_placeView_9 (by decide) ?_
  refine zr_aload_n F zd_XSight_placeView_10 rfl ?_
  refine zr_get F 9 8 zd_XSight_placeView_11 hg rfl (by decide) zw_381 rfl (by rfl) ?_
  refine zr_callS0 F (e_XFixed_turn l D tA b _ _ (12 + 22) (1122 + 3) 7 gv g hw hv (by omega) (by omega)) zd_XSight_placeView_14 zs_XSight_105 zq_XFixed_turn rfl rfl ⟨(Nat.le_of_ble_eq_true rfl), (Nat.le_of_ble_eq_true rfl)⟩ (Nat.le_of_ble_eq_true rfl) ⟨(Nat.le_of_ble_eq_true rfl), (Nat.le_of_ble_eq_true rfl)⟩ ?_
  refine zr_norm (zu (f) ((1122 + 3)) (.inl (tA 0, 12, .inl ((sg_XFixed_turn gv g))))) _ (rfl) rfl ?_
  refine zr_aload_n F zd_XSight_placeView_17 rfl ?_
  refine zr_iconstv (v := 1) F zd_XSight_placeView_18 (by decide) ?_
  refine zr_iconstv (v := 4) F zd_XSight_placeView_19 (by decide) ?_
  refine zr_callV0 F (e_XSight_swapAcross l D tA b _ _ 1 4 fc c1 cc se w h (.ref (b + 11)) sn pl c2 (sg_XFixed_turn gv g) ((zu_n _ (by omega)).trans hg) (zu_s _ _ _) (zx_in (by decide)) (zx_in (by decide))) zd_XSight_placeView_20 ((zu_n _ (by omega)).trans hg) rfl zs_XSight_109 rfl zq_XSight_swapAcross rfl rfl ⟨(Nat.le_of_ble_eq_true rfl), (Nat.le_of_ble_eq_true rfl)⟩ (Nat.le_of_ble_eq_true rfl) ⟨(Nat.le_of_ble_eq_true rfl), (Nat.le_of_ble_eq_true rfl)⟩ ?_
  refine zr_norm (zu (f) ((1122 + 3)) (.inl (tA 0, 12, .inl ((sg_XSight_swapAcross 1 4 (sg_XFixed_turn gv g)))))) _ (zu_zu _ _ _ _) rfl ?_
  refine zr_aload_n F zd_XSight_placeView_23 rfl ?_
  refine zr_iconstv (v := 2) F zd_XSight_placeView_24 (by decide) ?_
  refine zr_bipushv (v := 8) F zd_XSight_placeView_25 (by decide) ?_
  refine zr_callV0 F (e_XSight_swapAcross l D tA b _ _ 2 8 fc c1 cc se w h (.ref (b + 11)) sn pl c2 (sg_XSight_swapAcross 1 4 (sg_XFixed_turn gv g)) ((zu_n _ (by omega)).trans hg) (zu_s _ _ _) (zx_in (by decide)) (zx_in (by decide))) zd_XSight_placeView_27 ((zu_n _ (by omega)).trans hg) rfl zs_XSight_109 rfl zq_XSight_swapAcross rfl rfl ⟨(Nat.le_of_ble_eq_true rfl), (Nat.le_of_ble_eq_true rfl)⟩ (Nat.le_of_ble_eq_true rfl) ⟨(Nat.le_of_ble_eq_true rfl), (Nat.le_of_ble_eq_true rfl)⟩ ?_
  refine zr_norm (zu (f) ((1122 + 3)) (.inl (tA 0, 12, .inl ((sg_XSight_swapAcross 2 8 (sg_XSight_swapAcross 1 4 (sg_XFixed_turn gv g))))))) _ (zu_zu _ _ _ _) rfl ?_
  refine zr_aload_n F zd_XSight_placeView_30 rfl ?_
  refine zr_bipushv (v := 6) F zd_XSight_placeView_31 (by decide) ?_
  refine zr_bipushv (v := 9) F zd_XSight_placeView_33 (by decide) ?_
  refine zr_callV0 F (e_XSight_swapAcross l D tA b _ _ 6 9 fc c1 cc se w h (.ref (b + 11)) sn pl c2 (sg_XSight_swapAcross 2 8 (sg_XSight_swapAcross 1 4 (sg_XFixed_turn gv g))) ((zu_n _ (by omega)).trans hg) (zu_s _ _ _) (zx_in (by decide)) (zx_in (by decide))) zd_XSight_placeView_35 ((zu_n _ (by omega)).trans hg) rfl zs_XSight_109 rfl zq_XSight_swapAcross rfl rfl ⟨(Nat.le_of_ble_eq_true rfl), (Nat.le_of_ble_eq_true rfl)⟩ (Nat.le_of_ble_eq_true rfl) ⟨(Nat.le_of_ble_eq_true rfl), (Nat.le_of_ble_eq_true rfl)⟩ ?_
  refine zr_norm (zu (f) ((1122 + 3)) (.inl (tA 0, 12, .inl ((sg_XSight_swapAcross 6 9 (sg_XSight_swapAcross 2 8 (sg_XSight_swapAcross 1 4 (sg_XFixed_turn gv g)))))))) _ (zu_zu _ _ _ _) rfl ?_
  refine zr_iconstv (v := 0) F zd_XSight_placeView_38 (by decide) ?_
  refine zr_istore_n F zd_XSight_placeView_39 (by decide) ?_
  refine zr_iload_n F zd_XSight_placeView_40 rfl ?_
  refine zr_iconstv (v := 3) F zd_XSight_placeView_41 (by decide) ?_
  refine zr_icmp_ge F 85 zd_XSight_placeView_42 (by decide) (fun h => absurd h (by decide)) (fun _ => ?_)
  refine zr_aload_n F zd_XSight_placeView_45 rfl ?_
  refine zr_get F 9 8 zd_XSight_placeView_46 ((zu_n _ (by omega)).trans hg) rfl (by decide) zw_381 rfl (by rfl) ?_
  refine zr_iconstv (v := 4) F zd_XSight_placeView_49 (by decide) ?_
  refine zr_iload_n F zd_XSight_placeView_50 rfl ?_
  refine zr_imul F zd_XSight_placeView_51 ?_
  refine zr_toi (v' := 0) (by decide) ?_
  refine zr_iconstv (v := 3) F zd_XSight_placeView_52 (by decide) ?_
  refine zr_iadd F zd_XSight_placeView_53 ?_
  refine zr_toi (v' := 3) (by decide) ?_
  refine zr_aload_n F zd_XSight_placeView_54 rfl ?_
  refine zr_get F 9 8 zd_XSight_placeView_55 ((zu_n _ (by omega)).trans hg) rfl (by decide) zw_381 rfl (by rfl) ?_
  refine zr_iload_n F zd_XSight_placeView_58 rfl ?_
  refine zr_aload_n F zd_XSight_placeView_59 rfl ?_
  refine zr_iconstv (v := 0) F zd_XSight_placeView_60 (by decide) ?_
  refine zr_iald F zd_XSight_placeView_61 ((zu_n _ (by omega)).trans hw) (zx_in (by decide)) ?_
  refine zr_i2l F zd_XSight_placeView_62 ?_
  refine zr_aload_n F zd_XSight_placeView_63 rfl ?_
  refine zr_iconstv (v := 1) F zd_XSight_placeView_64 (by decide) ?_
  refine zr_iald F zd_XSight_placeView_65 ((zu_n _ (by omega)).trans hw) (zx_in (by decide)) ?_
  refine zr_i2l F zd_XSight_placeView_66 ?_
  refine zr_aload_n F zd_XSight_placeView_67 rfl ?_
  refine zr_iconstv (v := 2) F zd_XSight_placeView_68 (by decide) ?_
  refine zr_iald F zd_XSight_placeView_69 ((zu_n _ (by omega)).trans hw) (zx_in (by decide)) ?_
  refine zr_i2l F zd_XSight_placeView_70 ?_
  refine zr_callS1 F (e_XFixed_along l D tA b _ _ (1122 + 3) 0 (((gv (0 : Int32).toNatClampNeg) : Int32).toInt64) (((gv (1 : Int32).toNatClampNeg) : Int32).toInt64) (((gv (2 : Int32).toNatClampNeg) : Int32).toInt64) (sg_XSight_swapAcross 6 9 (sg_XSight_swapAcross 2 8 (sg_XSight_swapAcross 1 4 (sg_XFixed_turn gv g)))) (zu_s _ _ _) (zx_in (by decide)) (zx_in (by decide)) (zx_in (by decide))) zd_XSight_placeView_71 zs_XSight_113 zq_XFixed_along rfl rfl ⟨(Nat.le_of_ble_eq_true rfl), (Nat.le_of_ble_eq_true rfl)⟩ (Nat.le_of_ble_eq_true rfl) ⟨(Nat.le_of_ble_eq_true rfl), (Nat.le_of_ble_eq_true rfl)⟩ ?_
  refine zr_lneg F zd_XSight_placeView_74 ?_
  refine zr_callS1 F (c_XFixed_bound l D tA b _ _ (-(sp_e_XFixed_along 0 (((gv (0 : Int32).toNatClampNeg) : Int32).toInt64) (((gv (1 : Int32).toNatClampNeg) : Int32).toInt64) (((gv (2 : Int32).toNatClampNeg) : Int32).toInt64) (sg_XSight_swapAcross 6 9 (sg_XSight_swapAcross 2 8 (sg_XSight_swapAcross 1 4 (sg_XFixed_turn gv g))))))  ) zd_XSight_placeView_75 zs_XSight_117 zq_XFixed_bound rfl rfl ⟨(Nat.le_of_ble_eq_true rfl), (Nat.le_of_ble_eq_true rfl)⟩ (Nat.le_of_ble_eq_true rfl) ⟨(Nat.le_of_ble_eq_true rfl), (Nat.le_of_ble_eq_true rfl)⟩ ?_
  refine zr_iast F zd_XSight_placeView_78 (zu_s _ _ _) (zx_in (by decide)) ?_
  refine zr_norm (zu (f) ((1122 + 3)) (.inl (tA 0, 12, .inl (upd ((sg_XSight_swapAcross 6 9 (sg_XSight_swapAcross 2 8 (sg_XSight_swapAcross 1 4 (sg_XFixed_turn gv g))))) ((3 : Int32).toNatClampNeg) ((zx_bound (-(sp_e_XFixed_along 0 (((gv (0 : Int32).toNatClampNeg) : Int32).toInt64) (((gv (1 : Int32).toNatClampNeg) : Int32).toInt64) (((gv (2 : Int32).toNatClampNeg) : Int32).toInt64) (sg_XSight_swapAcross 6 9 (sg_XSight_swapAcross 2 8 (sg_XSight_swapAcross 1 4 (sg_XFixed_turn gv g)))))))))))) _ (zu_zu _ _ _ _) rfl ?_
  refine zr_iinc (v := 1) F zd_XSight_placeView_79 rfl (by decide) (by decide) ?_
  refine zr_goto F 40 zd_XSight_placeView_82 (by decide) ?_
  refine zr_iload_n F zd_XSight_placeView_40 rfl ?_
  refine zr_iconstv (v := 3) F zd_XSight_placeView_41 (by decide) ?_
  refine zr_icmp_ge F 85 zd_XSight_placeView_42 (by decide) (fun h => absurd h (by decide)) (fun _ => ?_)
  refine zr_aload_n F zd_XSight_placeView_45 rfl ?_
  refine zr_get F 9 8 zd_XSight_placeView_46 ((zu_n _ (by omega)).trans hg) rfl (by decide) zw_381 rfl (by rfl) ?_
  refine zr_iconstv (v := 4) F zd_XSight_placeView_49 (by decide) ?_
  refine zr_iload_n F zd_XSight_placeView_50 rfl ?_
  refine zr_imul F zd_XSight_placeView_51 ?_
  refine zr_toi (v' := 4) (by decide) ?_
  refine zr_iconstv (v := 3) F zd_XSight_placeView_52 (by decide) ?_
  refine zr_iadd F zd_XSight_placeView_53 ?_
  refine zr_toi (v' := 7) (by decide) ?_
  refine zr_aload_n F zd_XSight_placeView_54 rfl ?_
  refine zr_get F 9 8 zd_XSight_placeView_55 ((zu_n _ (by omega)).trans hg) rfl (by decide) zw_381 rfl (by rfl) ?_
  refine zr_iload_n F zd_XSight_placeView_58 rfl ?_
  refine zr_aload_n F zd_XSight_placeView_59 rfl ?_
  refine zr_iconstv (v := 0) F zd_XSight_placeView_60 (by decide) ?_
  refine zr_iald F zd_XSight_placeView_61 ((zu_n _ (by omega)).trans hw) (zx_in (by decide)) ?_
  refine zr_i2l F zd_XSight_placeView_62 ?_
  refine zr_aload_n F zd_XSight_placeView_63 rfl ?_
  refine zr_iconstv (v := 1) F zd_XSight_placeView_64 (by decide) ?_
  refine zr_iald F zd_XSight_placeView_65 ((zu_n _ (by omega)).trans hw) (zx_in (by decide)) ?_
  refine zr_i2l F zd_XSight_placeView_66 ?_
  refine zr_aload_n F zd_XSight_placeView_67 rfl ?_
  refine zr_iconstv (v := 2) F zd_XSight_placeView_68 (by decide) ?_
  refine zr_iald F zd_XSight_placeView_69 ((zu_n _ (by omega)).trans hw) (zx_in (by decide)) ?_
  refine zr_i2l F zd_XSight_placeView_70 ?_
  refine zr_callS1 F (e_XFixed_along l D tA b _ _ (1122 + 3) 1 (((gv (0 : Int32).toNatClampNeg) : Int32).toInt64) (((gv (1 : Int32).toNatClampNeg) : Int32).toInt64) (((gv (2 : Int32).toNatClampNeg) : Int32).toInt64) (upd ((sg_XSight_swapAcross 6 9 (sg_XSight_swapAcross 2 8 (sg_XSight_swapAcross 1 4 (sg_XFixed_turn gv g))))) ((3 : Int32).toNatClampNeg) ((zx_bound (-(sp_e_XFixed_along 0 (((gv (0 : Int32).toNatClampNeg) : Int32).toInt64) (((gv (1 : Int32).toNatClampNeg) : Int32).toInt64) (((gv (2 : Int32).toNatClampNeg) : Int32).toInt64) (sg_XSight_swapAcross 6 9 (sg_XSight_swapAcross 2 8 (sg_XSight_swapAcross 1 4 (sg_XFixed_turn gv g))))))))) (zu_s _ _ _) (zx_in (by decide)) (zx_in (by decide)) (zx_in (by decide))) zd_XSight_placeView_71 zs_XSight_113 zq_XFixed_along rfl rfl ⟨(Nat.le_of_ble_eq_true rfl), (Nat.le_of_ble_eq_true rfl)⟩ (Nat.le_of_ble_eq_true rfl) ⟨(Nat.le_of_ble_eq_true rfl), (Nat.le_of_ble_eq_true rfl)⟩ ?_
  refine zr_lneg F zd_XSight_placeView_74 ?_
  refine zr_callS1 F (c_XFixed_bound l D tA b _ _ (-(sp_e_XFixed_along 1 (((gv (0 : Int32).toNatClampNeg) : Int32).toInt64) (((gv (1 : Int32).toNatClampNeg) : Int32).toInt64) (((gv (2 : Int32).toNatClampNeg) : Int32).toInt64) (upd ((sg_XSight_swapAcross 6 9 (sg_XSight_swapAcross 2 8 (sg_XSight_swapAcross 1 4 (sg_XFixed_turn gv g))))) ((3 : Int32).toNatClampNeg) ((zx_bound (-(sp_e_XFixed_along 0 (((gv (0 : Int32).toNatClampNeg) : Int32).toInt64) (((gv (1 : Int32).toNatClampNeg) : Int32).toInt64) (((gv (2 : Int32).toNatClampNeg) : Int32).toInt64) (sg_XSight_swapAcross 6 9 (sg_XSight_swapAcross 2 8 (sg_XSight_swapAcross 1 4 (sg_XFixed_turn gv g)))))))))))  ) zd_XSight_placeView_75 zs_XSight_117 zq_XFixed_bound rfl rfl ⟨(Nat.le_of_ble_eq_true rfl), (Nat.le_of_ble_eq_true rfl)⟩ (Nat.le_of_ble_eq_true rfl) ⟨(Nat.le_of_ble_eq_true rfl), (Nat.le_of_ble_eq_true rfl)⟩ ?_
  refine zr_iast F zd_XSight_placeView_78 (zu_s _ _ _) (zx_in (by decide)) ?_
  refine zr_norm (zu (f) ((1122 + 3)) (.inl (tA 0, 12, .inl (upd (upd ((sg_XSight_swapAcross 6 9 (sg_XSight_swapAcross 2 8 (sg_XSight_swapAcross 1 4 (sg_XFixed_turn gv g))))) ((3 : Int32).toNatClampNeg) ((zx_bound (-(sp_e_XFixed_along 0 (((gv (0 : Int32).toNatClampNeg) : Int32).toInt64) (((gv (1 : Int32).toNatClampNeg) : Int32).toInt64) (((gv (2 : Int32).toNatClampNeg) : Int32).toInt64) (sg_XSight_swapAcross 6 9 (sg_XSight_swapAcross 2 8 (sg_XSight_swapAcross 1 4 (sg_XFixed_turn gv g))))))))) ((7 : Int32).toNatClampNeg) ((zx_bound (-(sp_e_XFixed_along 1 (((gv (0 : Int32).toNatClampNeg) : Int32).toInt64) (((gv (1 : Int32).toNatClampNeg) : Int32).toInt64) (((gv (2 : Int32).toNatClampNeg) : Int32).toInt64) (upd ((sg_XSight_swapAcross 6 9 (sg_XSight_swapAcross 2 8 (sg_XSight_swapAcross 1 4 (sg_XFixed_turn gv g))))) ((3 : Int32).toNatClampNeg) ((zx_bound (-(sp_e_XFixed_along 0 (((gv (0 : Int32).toNatClampNeg) : Int32).toInt64) (((gv (1 : Int32).toNatClampNeg) : Int32).toInt64) (((gv (2 : Int32).toNatClampNeg) : Int32).toInt64) (sg_XSight_swapAcross 6 9 (sg_XSight_swapAcross 2 8 (sg_XSight_swapAcross 1 4 (sg_XFixed_turn gv g))))))))))))))))) _ (zu_zu _ _ _ _) rfl ?_
  refine zr_iinc (v := 2) F zd_XSight_placeView_79 rfl (by decide) (by decide) ?_
  refine zr_goto F 40 zd_XSight_placeView_82 (by decide) ?_
  refine zr_iload_n F zd_XSight_placeView_40 rfl ?_
  refine zr_iconstv (v := 3) F zd_XSight_placeView_41 (by decide) ?_
  refine zr_icmp_ge F 85 zd_XSight_placeView_42 (by decide) (fun h => absurd h (by decide)) (fun _ => ?_)
  refine zr_aload_n F zd_XSight_placeView_45 rfl ?_
  refine zr_get F 9 8 zd_XSight_placeView_46 ((zu_n _ (by omega)).trans hg) rfl (by decide) zw_381 rfl (by rfl) ?_
  refine zr_iconstv (v := 4) F zd_XSight_placeView_49 (by decide) ?_
  refine zr_iload_n F zd_XSight_placeView_50 rfl ?_
  refine zr_imul F zd_XSight_placeView_51 ?_
  refine zr_toi (v' := 8) (by decide) ?_
  refine zr_iconstv (v := 3) F zd_XSight_placeView_52 (by decide) ?_
  refine zr_iadd F zd_XSight_placeView_53 ?_
  refine zr_toi (v' := 11) (by decide) ?_
  refine zr_aload_n F zd_XSight_placeView_54 rfl ?_
  refine zr_get F 9 8 zd_XSight_placeView_55 ((zu_n _ (by omega)).trans hg) rfl (by decide) zw_381 rfl (by rfl) ?_
  refine zr_iload_n F zd_XSight_placeView_58 rfl ?_
  refine zr_aload_n F zd_XSight_placeView_59 rfl ?_
  refine zr_iconstv (v := 0) F zd_XSight_placeView_60 (by decide) ?_
  refine zr_iald F zd_XSight_placeView_61 ((zu_n _ (by omega)).trans hw) (zx_in (by decide)) ?_
  refine zr_i2l F zd_XSight_placeView_62 ?_
  refine zr_aload_n F zd_XSight_placeView_63 rfl ?_
  refine zr_iconstv (v := 1) F zd_XSight_placeView_64 (by decide) ?_
  refine zr_iald F zd_XSight_placeView_65 ((zu_n _ (by omega)).trans hw) (zx_in (by decide)) ?_
  refine zr_i2l F zd_XSight_placeView_66 ?_
  refine zr_aload_n F zd_XSight_placeView_67 rfl ?_
  refine zr_iconstv (v := 2) F zd_XSight_placeView_68 (by decide) ?_
  refine zr_iald F zd_XSight_placeView_69 ((zu_n _ (by omega)).trans hw) (zx_in (by decide)) ?_
  refine zr_i2l F zd_XSight_placeView_70 ?_
  refine zr_callS1 F (e_XFixed_along l D tA b _ _ (1122 + 3) 2 (((gv (0 : Int32).toNatClampNeg) : Int32).toInt64) (((gv (1 : Int32).toNatClampNeg) : Int32).toInt64) (((gv (2 : Int32).toNatClampNeg) : Int32).toInt64) (upd (upd ((sg_XSight_swapAcross 6 9 (sg_XSight_swapAcross 2 8 (sg_XSight_swapAcross 1 4 (sg_XFixed_turn gv g))))) ((3 : Int32).toNatClampNeg) ((zx_bound (-(sp_e_XFixed_along 0 (((gv (0 : Int32).toNatClampNeg) : Int32).toInt64) (((gv (1 : Int32).toNatClampNeg) : Int32).toInt64) (((gv (2 : Int32).toNatClampNeg) : Int32).toInt64) (sg_XSight_swapAcross 6 9 (sg_XSight_swapAcross 2 8 (sg_XSight_swapAcross 1 4 (sg_XFixed_turn gv g))))))))) ((7 : Int32).toNatClampNeg) ((zx_bound (-(sp_e_XFixed_along 1 (((gv (0 : Int32).toNatClampNeg) : Int32).toInt64) (((gv (1 : Int32).toNatClampNeg) : Int32).toInt64) (((gv (2 : Int32).toNatClampNeg) : Int32).toInt64) (upd ((sg_XSight_swapAcross 6 9 (sg_XSight_swapAcross 2 8 (sg_XSight_swapAcross 1 4 (sg_XFixed_turn gv g))))) ((3 : Int32).toNatClampNeg) ((zx_bound (-(sp_e_XFixed_along 0 (((gv (0 : Int32).toNatClampNeg) : Int32).toInt64) (((gv (1 : Int32).toNatClampNeg) : Int32).toInt64) (((gv (2 : Int32).toNatClampNeg) : Int32).toInt64) (sg_XSight_swapAcross 6 9 (sg_XSight_swapAcross 2 8 (sg_XSight_swapAcross 1 4 (sg_XFixed_turn gv g)))))))))))))) (zu_s _ _ _) (zx_in (by decide)) (zx_in (by decide)) (zx_in (by decide))) zd_XSight_placeView_71 zs_XSight_113 zq_XFixed_along rfl rfl ⟨(Nat.le_of_ble_eq_true rfl), (Nat.le_of_ble_eq_true rfl)⟩ (Nat.le_of_ble_eq_true rfl) ⟨(Nat.le_of_ble_eq_true rfl), (Nat.le_of_ble_eq_true rfl)⟩ ?_
  refine zr_lneg F zd_XSight_placeView_74 ?_
  refine zr_callS1 F (c_XFixed_bound l D tA b _ _ (-(sp_e_XFixed_along 2 (((gv (0 : Int32).toNatClampNeg) : Int32).toInt64) (((gv (1 : Int32).toNatClampNeg) : Int32).toInt64) (((gv (2 : Int32).toNatClampNeg) : Int32).toInt64) (upd (upd ((sg_XSight_swapAcross 6 9 (sg_XSight_swapAcross 2 8 (sg_XSight_swapAcross 1 4 (sg_XFixed_turn gv g))))) ((3 : Int32).toNatClampNeg) ((zx_bound (-(sp_e_XFixed_along 0 (((gv (0 : Int32).toNatClampNeg) : Int32).toInt64) (((gv (1 : Int32).toNatClampNeg) : Int32).toInt64) (((gv (2 : Int32).toNatClampNeg) : Int32).toInt64) (sg_XSight_swapAcross 6 9 (sg_XSight_swapAcross 2 8 (sg_XSight_swapAcross 1 4 (sg_XFixed_turn gv g))))))))) ((7 : Int32).toNatClampNeg) ((zx_bound (-(sp_e_XFixed_along 1 (((gv (0 : Int32).toNatClampNeg) : Int32).toInt64) (((gv (1 : Int32).toNatClampNeg) : Int32).toInt64) (((gv (2 : Int32).toNatClampNeg) : Int32).toInt64) (upd ((sg_XSight_swapAcross 6 9 (sg_XSight_swapAcross 2 8 (sg_XSight_swapAcross 1 4 (sg_XFixed_turn gv g))))) ((3 : Int32).toNatClampNeg) ((zx_bound (-(sp_e_XFixed_along 0 (((gv (0 : Int32).toNatClampNeg) : Int32).toInt64) (((gv (1 : Int32).toNatClampNeg) : Int32).toInt64) (((gv (2 : Int32).toNatClampNeg) : Int32).toInt64) (sg_XSight_swapAcross 6 9 (sg_XSight_swapAcross 2 8 (sg_XSight_swapAcross 1 4 (sg_XFixed_turn gv g))))))))))))))))  ) zd_XSight_placeView_75 zs_XSight_117 zq_XFixed_bound rfl rfl ⟨(Nat.le_of_ble_eq_true rfl), (Nat.le_of_ble_eq_true rfl)⟩ (Nat.le_of_ble_eq_true rfl) ⟨(Nat.le_of_ble_eq_true rfl), (Nat.le_of_ble_eq_true rfl)⟩ ?_
  refine zr_iast F zd_XSight_placeView_78 (zu_s _ _ _) (zx_in (by decide)) ?_
  refine zr_norm (zu (f) ((1122 + 3)) (.inl (tA 0, 12, .inl (upd (upd (upd ((sg_XSight_swapAcross 6 9 (sg_XSight_swapAcross 2 8 (sg_XSight_swapAcross 1 4 (sg_XFixed_turn gv g))))) ((3 : Int32).toNatClampNeg) ((zx_bound (-(sp_e_XFixed_along 0 (((gv (0 : Int32).toNatClampNeg) : Int32).toInt64) (((gv (1 : Int32).toNatClampNeg) : Int32).toInt64) (((gv (2 : Int32).toNatClampNeg) : Int32).toInt64) (sg_XSight_swapAcross 6 9 (sg_XSight_swapAcross 2 8 (sg_XSight_swapAcross 1 4 (sg_XFixed_turn gv g))))))))) ((7 : Int32).toNatClampNeg) ((zx_bound (-(sp_e_XFixed_along 1 (((gv (0 : Int32).toNatClampNeg) : Int32).toInt64) (((gv (1 : Int32).toNatClampNeg) : Int32).toInt64) (((gv (2 : Int32).toNatClampNeg) : Int32).toInt64) (upd ((sg_XSight_swapAcross 6 9 (sg_XSight_swapAcross 2 8 (sg_XSight_swapAcross 1 4 (sg_XFixed_turn gv g))))) ((3 : Int32).toNatClampNeg) ((zx_bound (-(sp_e_XFixed_along 0 (((gv (0 : Int32).toNatClampNeg) : Int32).toInt64) (((gv (1 : Int32).toNatClampNeg) : Int32).toInt64) (((gv (2 : Int32).toNatClampNeg) : Int32).toInt64) (sg_XSight_swapAcross 6 9 (sg_XSight_swapAcross 2 8 (sg_XSight_swapAcross 1 4 (sg_XFixed_turn gv g)))))))))))))) ((11 : Int32).toNatClampNeg) ((zx_bound (-(sp_e_XFixed_along 2 (((gv (0 : Int32).toNatClampNeg) : Int32).toInt64) (((gv (1 : Int32).toNatClampNeg) : Int32).toInt64) (((gv (2 : Int32).toNatClampNeg) : Int32).toInt64) (upd (upd ((sg_XSight_swapAcross 6 9 (sg_XSight_swapAcross 2 8 (sg_XSight_swapAcross 1 4 (sg_XFixed_turn gv g))))) ((3 : Int32).toNatClampNeg) ((zx_bound (-(sp_e_XFixed_along 0 (((gv (0 : Int32).toNatClampNeg) : Int32).toInt64) (((gv (1 : Int32).toNatClampNeg) : Int32).toInt64) (((gv (2 : Int32).toNatClampNeg) : Int32).toInt64) (sg_XSight_swapAcross 6 9 (sg_XSight_swapAcross 2 8 (sg_XSight_swapAcross 1 4 (sg_XFixed_turn gv g))))))))) ((7 : Int32).toNatClampNeg) ((zx_bound (-(sp_e_XFixed_along 1 (((gv (0 : Int32).toNatClampNeg) : Int32).toInt64) (((gv (1 : Int32).toNatClampNeg) : Int32).toInt64) (((gv (2 : Int32).toNatClampNeg) : Int32).toInt64) (upd ((sg_XSight_swapAcross 6 9 (sg_XSight_swapAcross 2 8 (sg_XSight_swapAcross 1 4 (sg_XFixed_turn gv g))))) ((3 : Int32).toNatClampNeg) ((zx_bound (-(sp_e_XFixed_along 0 (((gv (0 : Int32).toNatClampNeg) : Int32).toInt64) (((gv (1 : Int32).toNatClampNeg) : Int32).toInt64) (((gv (2 : Int32).toNatClampNeg) : Int32).toInt64) (sg_XSight_swapAcross 6 9 (sg_XSight_swapAcross 2 8 (sg_XSight_swapAcross 1 4 (sg_XFixed_turn gv g)))))))))))))))))))))) _ (zu_zu _ _ _ _) rfl ?_
  refine zr_iinc (v := 3) F zd_XSight_placeView_79 rfl (by decide) (by decide) ?_
  refine zr_goto F 40 zd_XSight_placeView_82 (by decide) ?_
  refine zr_iload_n F zd_XSight_placeView_40 rfl ?_
  refine zr_iconstv (v := 3) F zd_XSight_placeView_41 (by decide) ?_
  refine zr_icmp_ge F 85 zd_XSight_placeView_42 (by decide) (fun _ => ?_) (fun h => absurd h (by decide))
  exact zr_vret F hr zd_XSight_placeView_85 (Nat.le_of_ble_eq_true rfl) (Nat.le_of_ble_eq_true rfl) ⟨rfl, rfl, rfl⟩
abbrev zb_XSight_stand : ByteArray := prog_10_method_2_code
def zy_XSight_stand : MethodName := ⟨"OrreryBox$Sight", "stand", "(LOrreryBox$Scene;)V"⟩
theorem zc_XSight_stand : Cond.code zy_XSight_stand zb_XSight_stand 4 none ∈ gw := gw_t 667 (by decide +kernel) rfl
theorem zq_XSight_stand : zy_XSight_stand.cls ≠ "java/lang/invoke/MethodHandle" ∧ zy_XSight_stand.cls ≠ "java/lang/invoke/VarHandle" ∧ (parseMethodDescriptor zy_XSight_stand.desc).map (fun d => d.parameters.length) = some 1 := by decide +kernel
theorem zd_XSight_stand_0 : decode zb_XSight_stand 0 = .ok (.aload_n 0, 1) := by decide +kernel
theorem zd_XSight_stand_1 : decode zb_XSight_stand 1 = .ok (.aload_n 1, 1) := by decide +kernel
theorem zd_XSight_stand_2 : decode zb_XSight_stand 2 = .ok (.putfield 49, 3) := by decide +kernel
theorem zd_XSight_stand_5 : decode zb_XSight_stand 5 = .ok (.aload_n 0, 1) := by decide +kernel
theorem zd_XSight_stand_6 : decode zb_XSight_stand 6 = .ok (.iconst 0, 1) := by decide +kernel
theorem zd_XSight_stand_7 : decode zb_XSight_stand 7 = .ok (.putfield 53, 3) := by decide +kernel
theorem zd_XSight_stand_10 : decode zb_XSight_stand 10 = .ok (.aload_n 0, 1) := by decide +kernel
theorem zd_XSight_stand_11 : decode zb_XSight_stand 11 = .ok (.iconst 0, 1) := by decide +kernel
theorem zd_XSight_stand_12 : decode zb_XSight_stand 12 = .ok (.putfield 56, 3) := by decide +kernel
theorem zd_XSight_stand_15 : decode zb_XSight_stand 15 = .ok (.aload_n 0, 1) := by decide +kernel
theorem zd_XSight_stand_16 : decode zb_XSight_stand 16 = .ok (.iconst (-1), 1) := by decide +kernel
theorem zd_XSight_stand_17 : decode zb_XSight_stand 17 = .ok (.putfield 59, 3) := by decide +kernel
theorem zd_XSight_stand_20 : decode zb_XSight_stand 20 = .ok (.aload_n 0, 1) := by decide +kernel
theorem zd_XSight_stand_21 : decode zb_XSight_stand 21 = .ok (.iconst 0, 1) := by decide +kernel
theorem zd_XSight_stand_22 : decode zb_XSight_stand 22 = .ok (.putfield 62, 3) := by decide +kernel
theorem zd_XSight_stand_25 : decode zb_XSight_stand 25 = .ok (.aload_n 0, 1) := by decide +kernel
theorem zd_XSight_stand_26 : decode zb_XSight_stand 26 = .ok (.iconst 0, 1) := by decide +kernel
theorem zd_XSight_stand_27 : decode zb_XSight_stand 27 = .ok (.putfield 65, 3) := by decide +kernel
theorem zd_XSight_stand_30 : decode zb_XSight_stand 30 = .ok (.aload_n 0, 1) := by decide +kernel
theorem zd_XSight_stand_31 : decode zb_XSight_stand 31 = .ok (.invokevirtual 68, 3) := by decide +kernel
theorem zd_XSight_stand_34 : decode zb_XSight_stand 34 = .ok (.iconst 0, 1) := by decide +kernel
theorem zd_XSight_stand_35 : decode zb_XSight_stand 35 = .ok (.istore_n 2, 1) := by decide +kernel
theorem zd_XSight_stand_36 : decode zb_XSight_stand 36 = .ok (.iload_n 2, 1) := by decide +kernel
theorem zd_XSight_stand_37 : decode zb_XSight_stand 37 = .ok (.aload_n 0, 1) := by decide +kernel
theorem zd_XSight_stand_38 : decode zb_XSight_stand 38 = .ok (.getfield 49, 3) := by decide +kernel
theorem zd_XSight_stand_41 : decode zb_XSight_stand 41 = .ok (.getfield 71, 3) := by decide +kernel
theorem zd_XSight_stand_44 : decode zb_XSight_stand 44 = .ok (.iconst 3, 1) := by decide +kernel
theorem zd_XSight_stand_45 : decode zb_XSight_stand 45 = .ok (.iaload, 1) := by decide +kernel
theorem zd_XSight_stand_46 : decode zb_XSight_stand 46 = .ok (.if_icmp .ge 55, 3) := by decide +kernel
theorem zd_XSight_stand_49 : decode zb_XSight_stand 49 = .ok (.aload_n 0, 1) := by decide +kernel
theorem zd_XSight_stand_50 : decode zb_XSight_stand 50 = .ok (.getfield 49, 3) := by decide +kernel
theorem zd_XSight_stand_53 : decode zb_XSight_stand 53 = .ok (.getfield 76, 3) := by decide +kernel
theorem zd_XSight_stand_56 : decode zb_XSight_stand 56 = .ok (.iload_n 2, 1) := by decide +kernel
theorem zd_XSight_stand_57 : decode zb_XSight_stand 57 = .ok (.aaload, 1) := by decide +kernel
theorem zd_XSight_stand_58 : decode zb_XSight_stand 58 = .ok (.astore_n 3, 1) := by decide +kernel
theorem zd_XSight_stand_59 : decode zb_XSight_stand 59 = .ok (.aload_n 3, 1) := by decide +kernel
theorem zd_XSight_stand_60 : decode zb_XSight_stand 60 = .ok (.getfield 80, 3) := by decide +kernel
theorem zd_XSight_stand_63 : decode zb_XSight_stand 63 = .ok (.ifCond .eq 32, 3) := by decide +kernel
theorem zd_XSight_stand_66 : decode zb_XSight_stand 66 = .ok (.aload_n 3, 1) := by decide +kernel
theorem zd_XSight_stand_67 : decode zb_XSight_stand 67 = .ok (.getfield 86, 3) := by decide +kernel
theorem zd_XSight_stand_70 : decode zb_XSight_stand 70 = .ok (.ifCond .lt 25, 3) := by decide +kernel
theorem zd_XSight_stand_73 : decode zb_XSight_stand 73 = .ok (.aload_n 0, 1) := by decide +kernel
theorem zd_XSight_stand_74 : decode zb_XSight_stand 74 = .ok (.getfield 22, 3) := by decide +kernel
theorem zd_XSight_stand_77 : decode zb_XSight_stand 77 = .ok (.aload_n 3, 1) := by decide +kernel
theorem zd_XSight_stand_78 : decode zb_XSight_stand 78 = .ok (.getfield 89, 3) := by decide +kernel
theorem zd_XSight_stand_81 : decode zb_XSight_stand 81 = .ok (.aload_n 0, 1) := by decide +kernel
theorem zd_XSight_stand_82 : decode zb_XSight_stand 82 = .ok (.getfield 30, 3) := by decide +kernel
theorem zd_XSight_stand_85 : decode zb_XSight_stand 85 = .ok (.iload_n 2, 1) := by decide +kernel
theorem zd_XSight_stand_86 : decode zb_XSight_stand 86 = .ok (.aaload, 1) := by decide +kernel
theorem zd_XSight_stand_87 : decode zb_XSight_stand 87 = .ok (.invokestatic 92, 3) := by decide +kernel
theorem zd_XSight_stand_90 : decode zb_XSight_stand 90 = .ok (.aload_n 0, 1) := by decide +kernel
theorem zd_XSight_stand_91 : decode zb_XSight_stand 91 = .ok (.iload_n 2, 1) := by decide +kernel
theorem zd_XSight_stand_92 : decode zb_XSight_stand 92 = .ok (.invokevirtual 98, 3) := by decide +kernel
theorem zd_XSight_stand_95 : decode zb_XSight_stand 95 = .ok (.iinc 2 1, 3) := by decide +kernel
theorem zd_XSight_stand_98 : decode zb_XSight_stand 98 = .ok (.goto (-62), 3) := by decide +kernel
theorem zd_XSight_stand_101 : decode zb_XSight_stand 101 = .ok (.return_, 1) := by decide +kernel
theorem zw_384 : (Jvm.Cond.fieldLink "OrreryBox$Sight" (53 : Nat) "OrreryBox$Sight" "seen" "I") ∈ gw := gw_t 384 (by decide +kernel) rfl
theorem zw_385 : (Jvm.Cond.fieldLink "OrreryBox$Sight" (56 : Nat) "OrreryBox$Sight" "place" "I") ∈ gw := gw_t 385 (by decide +kernel) rfl
theorem zw_373 : (Jvm.Cond.fieldLink "OrreryBox$Sight" (59 : Nat) "OrreryBox$Sight" "face" "I") ∈ gw := gw_t 373 (by decide +kernel) rfl
theorem zw_376 : (Jvm.Cond.fieldLink "OrreryBox$Sight" (62 : Nat) "OrreryBox$Sight" "cornerCount" "I") ∈ gw := gw_t 376 (by decide +kernel) rfl
theorem zw_377 : (Jvm.Cond.fieldLink "OrreryBox$Sight" (65 : Nat) "OrreryBox$Sight" "second" "I") ∈ gw := gw_t 377 (by decide +kernel) rfl
theorem zw_668 : (Jvm.Cond.methodLink "OrreryBox$Sight" (68 : Nat) ({ cls := "OrreryBox$Sight", name := "placeView", desc := "()V" } : Jvm.MethodName)) ∈ gw := gw_t 668 (by decide +kernel) rfl
theorem zw_670 : (Jvm.Cond.instanceMethod ({ cls := "OrreryBox$Sight", name := "placeView", desc := "()V" } : Jvm.MethodName)) ∈ gw := gw_t 670 (by decide +kernel) rfl
theorem zv_4 : (Jvm.Cond.selects "OrreryBox$Sight" (⟨"OrreryBox$Sight", "placeView", "()V"⟩ : MethodName) ⟨"OrreryBox$Sight", "placeView", "()V"⟩) ∈ gw := gw_s 4 (by decide +kernel) rfl
theorem zs_XSight_68 : zwV "OrreryBox$Sight" 68 "OrreryBox$Sight" zy_XSight_placeView zb_XSight_placeView 3 none := ⟨zw_668, zw_670, zv_4, zw_10, zc_XSight_placeView⟩
theorem zw_282 : (Jvm.Cond.fieldLink "OrreryBox$Sight" (71 : Nat) "OrreryBox$Scene" "counts" "[I") ∈ gw := gw_t 282 (by decide +kernel) rfl
set_option maxHeartbeats 4000000 in
set_option maxRecDepth 100000 in
theorem e_XSight_stand (l : Launch) (D : va_G) (tA : Nat → ClassId) (b : Nat) (f : zV) (n : Nat) (fc : Int32) (c1 : Nat) (cc : Int32) (se : Int32) (w : Int32) (h : Int32) (sc : Value) (sn : Int32) (pl : Int32) (c2 : Nat) (nw : Int32) (pd : Int32) (gc : Nat → Int32) (gv : Nat → Int32) (g : Nat → Int32) (hg : f 1121 = some (.inr (9, [.ref (b + 1122), .int fc, .ref (b + c1), .int cc, .int se, .int w, .int h, sc, .ref (b + (1122 + 3)), .ref (b + (1122 + 4)), .ref (b + (1122 + 53)), .int sn, .int pl, .ref (b + (1122 + 54)), .ref (b + c2)]))) (hv : f ((1122 + 3)) = some (.inl (tA 0, 12, .inl (g)))) (hs : f 11 = some (.inr (8, zsO b 12 nw pd))) (hc : f 12 = some (.inl (tA 0, 5, .inl (gc)))) (hw : f ((12 + 22)) = some (.inl (tA 0, 7, .inl (gv)))) (k3 : gc (3 : Int32).toNatClampNeg = 0) : zM l D tA b zy_XSight_stand zb_XSight_stand 4 none 5 124 0 0 [.ref (b + 1121), .ref (b + 11)] f n (zE none (zu (zu (f) 1121 (.inr (9, [.ref (b + 1122), .int (-1), .ref (b + c1), .int 0, .int 0, .int w, .int h, .ref (b + 11), .ref (b + (1122 + 3)), .ref (b + (1122 + 4)), .ref (b + (1122 + 53)), .int 0, .int 0, .ref (b + (1122 + 54)), .ref (b + c2)]))) ((1122 + 3)) (.inl (tA 0, 12, .inl ((sg_XSight_placeView gv g))))) n) := by
  refine zM_of (own := "OrreryBox$Sight") (plainFor_of_name (by decide)) rfl (Nat.le_of_ble_eq_true rfl) (fun p e s m below meth c F hr hin hH => ?_)
  refine zr_aload_n F zd_XSight_stand_0 rfl ?_
  refine zr_aload_n F zd_XSight_stand_1 rfl ?_
  refine zr_put F 9 7 zd_XSight_stand_2 hg rfl (by decide) zw_380 rfl rfl rfl rfl (by exact (Nat.le_of_ble_eq_true rfl)) ?_
  refine zr_norm (zu (f) 1121 (.inr (9, [.ref (b + 1122), .int fc, .ref (b + c1), .int cc, .int se, .int w, .int h, .ref (b + 11), .ref (b + (1122 + 3)), .ref (b + (1122 + 4)), .ref (b + (1122 + 53)), .int sn, .int pl, .ref (b + (1122 + 54)), .ref (b + c2)]))) _ (rfl) rfl ?_
  refine zr_aload_n F zd_XSight_stand_5 rfl ?_
  refine zr_iconstv (v := 0) F zd_XSight_stand_6 (by decide) ?_
  refine zr_put F 9 11 zd_XSight_stand_7 (zu_s _ _ _) rfl (by decide) zw_384 rfl rfl rfl rfl (by exact (Nat.le_of_ble_eq_true rfl)) ?_
  refine zr_norm (zu (f) 1121 (.inr (9, [.ref (b + 1122), .int fc, .ref (b + c1), .int cc, .int se, .int w, .int h, .ref (b + 11), .ref (b + (1122 + 3)), .ref (b + (1122 + 4)), .ref (b + (1122 + 53)), .int 0, .int pl, .ref (b + (1122 + 54)), .ref (b + c2)]))) _ (zu_zu _ _ _ _) rfl ?_
  refine zr_aload_n F zd_XSight_stand_10 rfl ?_
  refine zr_iconstv (v := 0) F zd_XSight_stand_11 (by decide) ?_
  refine zr_put F 9 12 zd_XSight_stand_12 (zu_s _ _ _) rfl (by decide) zw_385 rfl rfl rfl rfl (by exact (Nat.le_of_ble_eq_true rfl)) ?_
  refine zr_norm (zu (f) 1121 (.inr (9, [.ref (b + 1122), .int fc, .ref (b + c1), .int cc, .int se, .int w, .int h, .ref (b + 11), .ref (b + (1122 + 3)), .ref (b + (1122 + 4)), .ref (b + (1122 + 53)), .int 0, .int 0, .ref (b + (1122 + 54)), .ref (b + c2)]))) _ (zu_zu _ _ _ _) rfl ?_
  refine zr_aload_n F zd_XSight_stand_15 rfl ?_
  refine zr_iconstv (v := (-1)) F zd_XSight_stand_16 (by decide) ?_
  refine zr_put F 9 1 zd_XSight_stand_17 (zu_s _ _ _) rfl (by decide) zw_373 rfl rfl rfl rfl (by exact (Nat.le_of_ble_eq_true rfl)) ?_
  refine zr_norm (zu (f) 1121 (.inr (9, [.ref (b + 1122), .int (-1), .ref (b + c1), .int cc, .int se, .int w, .int h, .ref (b + 11), .ref (b + (1122 + 3)), .ref (b + (1122 + 4)), .ref (b + (1122 + 53)), .int 0, .int 0, .ref (b + (1122 + 54)), .ref (b + c2)]))) _ (zu_zu _ _ _ _) rfl ?_
  refine zr_aload_n F zd_XSight_stand_20 rfl ?_
  refine zr_iconstv (v := 0) F zd_XSight_stand_21 (by decide) ?_
  refine zr_put F 9 3 zd_XSight_stand_22 (zu_s _ _ _) rfl (by decide) zw_376 rfl rfl rfl rfl (by exact (Nat.le_of_ble_eq_true rfl)) ?_
  refine zr_norm (zu (f) 1121 (.inr (9, [.ref (b + 1122), .int (-1), .ref (b + c1), .int 0, .int se, .int w, .int h, .ref (b + 11), .ref (b + (1122 + 3)), .ref (b + (1122 + 4)), .ref (b + (1122 + 53)), .int 0, .int 0, .ref (b + (1122 + 54)), .ref (b + c2)]))) _ (zu_zu _ _ _ _) rfl ?_
  refine zr_aload_n F zd_XSight_stand_25 rfl ?_
  refine zr_iconstv (v := 0) F zd_XSight_stand_26 (by decide) ?_
  refine zr_put F 9 4 zd_XSight_stand_27 (zu_s _ _ _) rfl (by decide) zw_377 rfl rfl rfl rfl (by exact (Nat.le_of_ble_eq_true rfl)) ?_
  refine zr_norm (zu (f) 1121 (.inr (9, [.ref (b + 1122), .int (-1), .ref (b + c1), .int 0, .int 0, .int w, .int h, .ref (b + 11), .ref (b + (1122 + 3)), .ref (b + (1122 + 4)), .ref (b + (1122 + 53)), .int 0, .int 0, .ref (b + (1122 + 54)), .ref (b + c2)]))) _ (zu_zu _ _ _ _) rfl ?_
  refine zr_aload_n F zd_XSight_stand_30 rfl ?_
  refine zr_callV0 F (e_XSight_placeView l D tA b _ _ (-1) c1 0 0 w h 0 0 c2 nw pd gv g (zu_s _ _ _) ((zu_n _ (by omega)).trans hv) ((zu_n _ (by omega)).trans hs) ((zu_n _ (by omega)).trans hw) ) zd_XSight_stand_31 (zu_s _ _ _) rfl zs_XSight_68 rfl zq_XSight_placeView rfl rfl ⟨(Nat.le_of_ble_eq_true rfl), (Nat.le_of_ble_eq_true rfl)⟩ (Nat.le_of_ble_eq_true rfl) ⟨(Nat.le_of_ble_eq_true rfl), (Nat.le_of_ble_eq_true rfl)⟩ ?_
  refine zr_norm (zu (zu (f) 1121 (.inr (9, [.ref (b + 1122), .int (-1), .ref (b + c1), .int 0, .int 0, .int w, .int h, .ref (b + 11), .ref (b + (1122 + 3)), .ref (b + (1122 + 4)), .ref (b + (1122 + 53)), .int 0, .int 0, .ref (b + (1122 + 54)), .ref (b + c2)]))) ((1122 + 3)) (.inl (tA 0, 12, .inl ((sg_XSight_placeView gv g))))) _ (rfl) rfl ?_
  refine zr_iconstv (v := 0) F zd_XSight_stand_34 (by decide) ?_
  refine zr_istore_n F zd_XSight_stand_35 (by decide) ?_
  refine zr_iload_n F zd_XSight_stand_36 rfl ?_
  refine zr_aload_n F zd_XSight_stand_37 rfl ?_
  refine zr_get F 9 7 zd_XSight_stand_38 ((zu_n _ (by omega)).trans (zu_s _ _ _)) rfl (by decide) zw_380 rfl (by rfl) ?_
  refine zr_get F 8 0 zd_XSight_stand_41 ((zu_n _ (by omega)).trans ((zu_n _ (by omega)).trans hs)) rfl (by decide) zw_282 rfl (by rfl) ?_
  refine zr_iconstv (v := 3) F zd_XSight_stand_44 (by decide) ?_
  refine zr_iald F zd_XSight_stand_45 ((zu_n _ (by omega)).trans ((zu_n _ (by omega)).trans hc)) (zx_in (by decide)) ?_
  refine zr_toi (v' := 0) k3 ?_
  refine zr_icmp_ge F 101 zd_XSight_stand_46 (by decide) (fun _ => ?_) (fun h => absurd h (by decide))
  exact zr_vret F hr zd_XSight_stand_101 (Nat.le_of_ble_eq_true rfl) (Nat.le_of_ble_eq_true rfl) ⟨rfl, rfl, rfl⟩
abbrev zb_XSight_nextFace : ByteArray := prog_10_method_10_code
def zy_XSight_nextFace : MethodName := ⟨"OrreryBox$Sight", "nextFace", "()Z"⟩
theorem zc_XSight_nextFace : Cond.code zy_XSight_nextFace zb_XSight_nextFace 2 (some .boolean) ∈ gw := gw_t 705 (by decide +kernel) rfl
theorem zq_XSight_nextFace : zy_XSight_nextFace.cls ≠ "java/lang/invoke/MethodHandle" ∧ zy_XSight_nextFace.cls ≠ "java/lang/invoke/VarHandle" ∧ (parseMethodDescriptor zy_XSight_nextFace.desc).map (fun d => d.parameters.length) = some 0 := by decide +kernel
theorem zd_XSight_nextFace_0 : decode zb_XSight_nextFace 0 = .ok (.aload_n 0, 1) := by decide +kernel
theorem zd_XSight_nextFace_1 : decode zb_XSight_nextFace 1 = .ok (.getfield 56, 3) := by decide +kernel
theorem zd_XSight_nextFace_4 : decode zb_XSight_nextFace 4 = .ok (.aload_n 0, 1) := by decide +kernel
theorem zd_XSight_nextFace_5 : decode zb_XSight_nextFace 5 = .ok (.getfield 53, 3) := by decide +kernel
theorem zd_XSight_nextFace_8 : decode zb_XSight_nextFace 8 = .ok (.if_icmp .ge 111, 3) := by decide +kernel
theorem zd_XSight_nextFace_11 : decode zb_XSight_nextFace 11 = .ok (.aload_n 0, 1) := by decide +kernel
theorem zd_XSight_nextFace_12 : decode zb_XSight_nextFace 12 = .ok (.getfield 49, 3) := by decide +kernel
theorem zd_XSight_nextFace_15 : decode zb_XSight_nextFace 15 = .ok (.getfield 129, 3) := by decide +kernel
theorem zd_XSight_nextFace_18 : decode zb_XSight_nextFace 18 = .ok (.aload_n 0, 1) := by decide +kernel
theorem zd_XSight_nextFace_19 : decode zb_XSight_nextFace 19 = .ok (.getfield 49, 3) := by decide +kernel
theorem zd_XSight_nextFace_22 : decode zb_XSight_nextFace 22 = .ok (.getfield 76, 3) := by decide +kernel
theorem zd_XSight_nextFace_25 : decode zb_XSight_nextFace 25 = .ok (.aload_n 0, 1) := by decide +kernel
theorem zd_XSight_nextFace_26 : decode zb_XSight_nextFace 26 = .ok (.getfield 33, 3) := by decide +kernel
theorem zd_XSight_nextFace_29 : decode zb_XSight_nextFace 29 = .ok (.aload_n 0, 1) := by decide +kernel
theorem zd_XSight_nextFace_30 : decode zb_XSight_nextFace 30 = .ok (.getfield 56, 3) := by decide +kernel
theorem zd_XSight_nextFace_33 : decode zb_XSight_nextFace 33 = .ok (.iaload, 1) := by decide +kernel
theorem zd_XSight_nextFace_34 : decode zb_XSight_nextFace 34 = .ok (.aaload, 1) := by decide +kernel
theorem zd_XSight_nextFace_35 : decode zb_XSight_nextFace 35 = .ok (.getfield 86, 3) := by decide +kernel
theorem zd_XSight_nextFace_38 : decode zb_XSight_nextFace 38 = .ok (.aaload, 1) := by decide +kernel
theorem zd_XSight_nextFace_39 : decode zb_XSight_nextFace 39 = .ok (.astore_n 1, 1) := by decide +kernel
theorem zd_XSight_nextFace_40 : decode zb_XSight_nextFace 40 = .ok (.aload_n 0, 1) := by decide +kernel
theorem zd_XSight_nextFace_41 : decode zb_XSight_nextFace 41 = .ok (.getfield 59, 3) := by decide +kernel
theorem zd_XSight_nextFace_44 : decode zb_XSight_nextFace 44 = .ok (.ifCond .ge 8, 3) := by decide +kernel
theorem zd_XSight_nextFace_47 : decode zb_XSight_nextFace 47 = .ok (.aload_n 0, 1) := by decide +kernel
theorem zd_XSight_nextFace_48 : decode zb_XSight_nextFace 48 = .ok (.aload_n 1, 1) := by decide +kernel
theorem zd_XSight_nextFace_49 : decode zb_XSight_nextFace 49 = .ok (.invokevirtual 154, 3) := by decide +kernel
theorem zd_XSight_nextFace_52 : decode zb_XSight_nextFace 52 = .ok (.aload_n 0, 1) := by decide +kernel
theorem zd_XSight_nextFace_53 : decode zb_XSight_nextFace 53 = .ok (.dup, 1) := by decide +kernel
theorem zd_XSight_nextFace_54 : decode zb_XSight_nextFace 54 = .ok (.getfield 59, 3) := by decide +kernel
theorem zd_XSight_nextFace_57 : decode zb_XSight_nextFace 57 = .ok (.iconst 1, 1) := by decide +kernel
theorem zd_XSight_nextFace_58 : decode zb_XSight_nextFace 58 = .ok (.iadd, 1) := by decide +kernel
theorem zd_XSight_nextFace_59 : decode zb_XSight_nextFace 59 = .ok (.putfield 59, 3) := by decide +kernel
theorem zd_XSight_nextFace_62 : decode zb_XSight_nextFace 62 = .ok (.aload_n 0, 1) := by decide +kernel
theorem zd_XSight_nextFace_63 : decode zb_XSight_nextFace 63 = .ok (.getfield 59, 3) := by decide +kernel
theorem zd_XSight_nextFace_66 : decode zb_XSight_nextFace 66 = .ok (.aload_n 1, 1) := by decide +kernel
theorem zd_XSight_nextFace_67 : decode zb_XSight_nextFace 67 = .ok (.getfield 158, 3) := by decide +kernel
theorem zd_XSight_nextFace_70 : decode zb_XSight_nextFace 70 = .ok (.if_icmp .ge 31, 3) := by decide +kernel
theorem zd_XSight_nextFace_73 : decode zb_XSight_nextFace 73 = .ok (.aload_n 0, 1) := by decide +kernel
theorem zd_XSight_nextFace_74 : decode zb_XSight_nextFace 74 = .ok (.aload_n 1, 1) := by decide +kernel
theorem zd_XSight_nextFace_75 : decode zb_XSight_nextFace 75 = .ok (.invokevirtual 161, 3) := by decide +kernel
theorem zd_XSight_nextFace_78 : decode zb_XSight_nextFace 78 = .ok (.aload_n 0, 1) := by decide +kernel
theorem zd_XSight_nextFace_79 : decode zb_XSight_nextFace 79 = .ok (.getfield 62, 3) := by decide +kernel
theorem zd_XSight_nextFace_82 : decode zb_XSight_nextFace 82 = .ok (.iconst 3, 1) := by decide +kernel
theorem zd_XSight_nextFace_83 : decode zb_XSight_nextFace 83 = .ok (.if_icmp .lt 5, 3) := by decide +kernel
theorem zd_XSight_nextFace_86 : decode zb_XSight_nextFace 86 = .ok (.iconst 1, 1) := by decide +kernel
theorem zd_XSight_nextFace_87 : decode zb_XSight_nextFace 87 = .ok (.ireturn, 1) := by decide +kernel
theorem zd_XSight_nextFace_88 : decode zb_XSight_nextFace 88 = .ok (.aload_n 0, 1) := by decide +kernel
theorem zd_XSight_nextFace_89 : decode zb_XSight_nextFace 89 = .ok (.dup, 1) := by decide +kernel
theorem zd_XSight_nextFace_90 : decode zb_XSight_nextFace 90 = .ok (.getfield 59, 3) := by decide +kernel
theorem zd_XSight_nextFace_93 : decode zb_XSight_nextFace 93 = .ok (.iconst 1, 1) := by decide +kernel
theorem zd_XSight_nextFace_94 : decode zb_XSight_nextFace 94 = .ok (.iadd, 1) := by decide +kernel
theorem zd_XSight_nextFace_95 : decode zb_XSight_nextFace 95 = .ok (.putfield 59, 3) := by decide +kernel
theorem zd_XSight_nextFace_98 : decode zb_XSight_nextFace 98 = .ok (.goto (-36), 3) := by decide +kernel
theorem zd_XSight_nextFace_101 : decode zb_XSight_nextFace 101 = .ok (.aload_n 0, 1) := by decide +kernel
theorem zd_XSight_nextFace_102 : decode zb_XSight_nextFace 102 = .ok (.iconst (-1), 1) := by decide +kernel
theorem zd_XSight_nextFace_103 : decode zb_XSight_nextFace 103 = .ok (.putfield 59, 3) := by decide +kernel
theorem zd_XSight_nextFace_106 : decode zb_XSight_nextFace 106 = .ok (.aload_n 0, 1) := by decide +kernel
theorem zd_XSight_nextFace_107 : decode zb_XSight_nextFace 107 = .ok (.dup, 1) := by decide +kernel
theorem zd_XSight_nextFace_108 : decode zb_XSight_nextFace 108 = .ok (.getfield 56, 3) := by decide +kernel
theorem zd_XSight_nextFace_111 : decode zb_XSight_nextFace 111 = .ok (.iconst 1, 1) := by decide +kernel
theorem zd_XSight_nextFace_112 : decode zb_XSight_nextFace 112 = .ok (.iadd, 1) := by decide +kernel
theorem zd_XSight_nextFace_113 : decode zb_XSight_nextFace 113 = .ok (.putfield 56, 3) := by decide +kernel
theorem zd_XSight_nextFace_116 : decode zb_XSight_nextFace 116 = .ok (.goto (-116), 3) := by decide +kernel
theorem zd_XSight_nextFace_119 : decode zb_XSight_nextFace 119 = .ok (.iconst 0, 1) := by decide +kernel
theorem zd_XSight_nextFace_120 : decode zb_XSight_nextFace 120 = .ok (.ireturn, 1) := by decide +kernel
set_option maxHeartbeats 4000000 in
set_option maxRecDepth 100000 in
theorem e_XSight_nextFace (l : Launch) (D : va_G) (tA : Nat → ClassId) (b : Nat) (f : zV) (n : Nat) (fc : Int32) (c1 : Nat) (cc : Int32) (se : Int32) (w : Int32) (h : Int32) (sc : Value) (c2 : Nat) (hg : f 1121 = some (.inr (9, [.ref (b + 1122), .int fc, .ref (b + c1), .int cc, .int se, .int w, .int h, sc, .ref (b + (1122 + 3)), .ref (b + (1122 + 4)), .ref (b + (1122 + 53)), .int 0, .int 0, .ref (b + (1122 + 54)), .ref (b + c2)])))  : zM l D tA b zy_XSight_nextFace zb_XSight_nextFace 2 (some .boolean) 0 0 0 0 [.ref (b + 1121)] f n (zE (some (.int 0)) f n) := by
  refine zM_of (own := "OrreryBox$Sight") (plainFor_of_name (by decide)) rfl (Nat.le_of_ble_eq_true rfl) (fun p e s m below meth c F hr hin hH => ?_)
  refine zr_aload_n F zd_XSight_nextFace_0 rfl ?_
  refine zr_get F 9 12 zd_XSight_nextFace_1 hg rfl (by decide) zw_385 rfl (by rfl) ?_
  refine zr_aload_n F zd_XSight_nextFace_4 rfl ?_
  refine zr_get F 9 11 zd_XSight_nextFace_5 hg rfl (by decide) zw_384 rfl (by rfl) ?_
  refine zr_icmp_ge F 119 zd_XSight_nextFace_8 (by decide) (fun _ => ?_) (fun h => absurd h (by decide))
  refine zr_iconstv (v := 0) F zd_XSight_nextFace_119 (by decide) ?_
  exact zr_zret F hr rfl zd_XSight_nextFace_120 (Nat.le_of_ble_eq_true rfl) (Nat.le_of_ble_eq_true rfl) ⟨rfl, rfl, rfl⟩
abbrev zb_XSight_nextPiece : ByteArray := prog_10_method_9_code
def zy_XSight_nextPiece : MethodName := ⟨"OrreryBox$Sight", "nextPiece", "()Z"⟩
theorem zc_XSight_nextPiece : Cond.code zy_XSight_nextPiece zb_XSight_nextPiece 2 (some .boolean) ∈ gw := gw_t 700 (by decide +kernel) rfl
theorem zq_XSight_nextPiece : zy_XSight_nextPiece.cls ≠ "java/lang/invoke/MethodHandle" ∧ zy_XSight_nextPiece.cls ≠ "java/lang/invoke/VarHandle" ∧ (parseMethodDescriptor zy_XSight_nextPiece.desc).map (fun d => d.parameters.length) = some 0 := by decide +kernel
theorem zd_XSight_nextPiece_0 : decode zb_XSight_nextPiece 0 = .ok (.iconst 0, 1) := by decide +kernel
theorem zd_XSight_nextPiece_1 : decode zb_XSight_nextPiece 1 = .ok (.istore_n 1, 1) := by decide +kernel
theorem zd_XSight_nextPiece_2 : decode zb_XSight_nextPiece 2 = .ok (.iload_n 1, 1) := by decide +kernel
theorem zd_XSight_nextPiece_3 : decode zb_XSight_nextPiece 3 = .ok (.ldc 138, 2) := by decide +kernel
theorem zd_XSight_nextPiece_5 : decode zb_XSight_nextPiece 5 = .ok (.if_icmp .ge 89, 3) := by decide +kernel
theorem zd_XSight_nextPiece_8 : decode zb_XSight_nextPiece 8 = .ok (.aload_n 0, 1) := by decide +kernel
theorem zd_XSight_nextPiece_9 : decode zb_XSight_nextPiece 9 = .ok (.dup, 1) := by decide +kernel
theorem zd_XSight_nextPiece_10 : decode zb_XSight_nextPiece 10 = .ok (.getfield 65, 3) := by decide +kernel
theorem zd_XSight_nextPiece_13 : decode zb_XSight_nextPiece 13 = .ok (.iconst 1, 1) := by decide +kernel
theorem zd_XSight_nextPiece_14 : decode zb_XSight_nextPiece 14 = .ok (.iadd, 1) := by decide +kernel
theorem zd_XSight_nextPiece_15 : decode zb_XSight_nextPiece 15 = .ok (.putfield 65, 3) := by decide +kernel
theorem zd_XSight_nextPiece_18 : decode zb_XSight_nextPiece 18 = .ok (.aload_n 0, 1) := by decide +kernel
theorem zd_XSight_nextPiece_19 : decode zb_XSight_nextPiece 19 = .ok (.getfield 65, 3) := by decide +kernel
theorem zd_XSight_nextPiece_22 : decode zb_XSight_nextPiece 22 = .ok (.iconst 1, 1) := by decide +kernel
theorem zd_XSight_nextPiece_23 : decode zb_XSight_nextPiece 23 = .ok (.iadd, 1) := by decide +kernel
theorem zd_XSight_nextPiece_24 : decode zb_XSight_nextPiece 24 = .ok (.aload_n 0, 1) := by decide +kernel
theorem zd_XSight_nextPiece_25 : decode zb_XSight_nextPiece 25 = .ok (.getfield 62, 3) := by decide +kernel
theorem zd_XSight_nextPiece_28 : decode zb_XSight_nextPiece 28 = .ok (.if_icmp .lt 17, 3) := by decide +kernel
theorem zd_XSight_nextPiece_31 : decode zb_XSight_nextPiece 31 = .ok (.aload_n 0, 1) := by decide +kernel
theorem zd_XSight_nextPiece_32 : decode zb_XSight_nextPiece 32 = .ok (.invokevirtual 139, 3) := by decide +kernel
theorem zd_XSight_nextPiece_35 : decode zb_XSight_nextPiece 35 = .ok (.ifCond .ne 5, 3) := by decide +kernel
theorem zd_XSight_nextPiece_38 : decode zb_XSight_nextPiece 38 = .ok (.iconst 0, 1) := by decide +kernel
theorem zd_XSight_nextPiece_39 : decode zb_XSight_nextPiece 39 = .ok (.ireturn, 1) := by decide +kernel
theorem zd_XSight_nextPiece_40 : decode zb_XSight_nextPiece 40 = .ok (.aload_n 0, 1) := by decide +kernel
theorem zd_XSight_nextPiece_41 : decode zb_XSight_nextPiece 41 = .ok (.iconst 1, 1) := by decide +kernel
theorem zd_XSight_nextPiece_42 : decode zb_XSight_nextPiece 42 = .ok (.putfield 65, 3) := by decide +kernel
theorem zd_XSight_nextPiece_45 : decode zb_XSight_nextPiece 45 = .ok (.aload_n 0, 1) := by decide +kernel
theorem zd_XSight_nextPiece_46 : decode zb_XSight_nextPiece 46 = .ok (.getfield 12, 3) := by decide +kernel
theorem zd_XSight_nextPiece_49 : decode zb_XSight_nextPiece 49 = .ok (.aload_n 0, 1) := by decide +kernel
theorem zd_XSight_nextPiece_50 : decode zb_XSight_nextPiece 50 = .ok (.getfield 18, 3) := by decide +kernel
theorem zd_XSight_nextPiece_53 : decode zb_XSight_nextPiece 53 = .ok (.aload_n 0, 1) := by decide +kernel
theorem zd_XSight_nextPiece_54 : decode zb_XSight_nextPiece 54 = .ok (.getfield 65, 3) := by decide +kernel
theorem zd_XSight_nextPiece_57 : decode zb_XSight_nextPiece 57 = .ok (.aload_n 0, 1) := by decide +kernel
theorem zd_XSight_nextPiece_58 : decode zb_XSight_nextPiece 58 = .ok (.getfield 49, 3) := by decide +kernel
theorem zd_XSight_nextPiece_61 : decode zb_XSight_nextPiece 61 = .ok (.getfield 143, 3) := by decide +kernel
theorem zd_XSight_nextPiece_64 : decode zb_XSight_nextPiece 64 = .ok (.aload_n 0, 1) := by decide +kernel
theorem zd_XSight_nextPiece_65 : decode zb_XSight_nextPiece 65 = .ok (.invokevirtual 146, 3) := by decide +kernel
theorem zd_XSight_nextPiece_68 : decode zb_XSight_nextPiece 68 = .ok (.aaload, 1) := by decide +kernel
theorem zd_XSight_nextPiece_69 : decode zb_XSight_nextPiece 69 = .ok (.iconst 5, 1) := by decide +kernel
theorem zd_XSight_nextPiece_70 : decode zb_XSight_nextPiece 70 = .ok (.iaload, 1) := by decide +kernel
theorem zd_XSight_nextPiece_71 : decode zb_XSight_nextPiece 71 = .ok (.iconst 1, 1) := by decide +kernel
theorem zd_XSight_nextPiece_72 : decode zb_XSight_nextPiece 72 = .ok (.if_icmp .ne 7, 3) := by decide +kernel
theorem zd_XSight_nextPiece_75 : decode zb_XSight_nextPiece 75 = .ok (.iconst 1, 1) := by decide +kernel
theorem zd_XSight_nextPiece_76 : decode zb_XSight_nextPiece 76 = .ok (.goto 4, 3) := by decide +kernel
theorem zd_XSight_nextPiece_79 : decode zb_XSight_nextPiece 79 = .ok (.iconst 0, 1) := by decide +kernel
theorem zd_XSight_nextPiece_80 : decode zb_XSight_nextPiece 80 = .ok (.invokevirtual 150, 3) := by decide +kernel
theorem zd_XSight_nextPiece_83 : decode zb_XSight_nextPiece 83 = .ok (.ifCond .eq 5, 3) := by decide +kernel
theorem zd_XSight_nextPiece_86 : decode zb_XSight_nextPiece 86 = .ok (.iconst 1, 1) := by decide +kernel
theorem zd_XSight_nextPiece_87 : decode zb_XSight_nextPiece 87 = .ok (.ireturn, 1) := by decide +kernel
theorem zd_XSight_nextPiece_88 : decode zb_XSight_nextPiece 88 = .ok (.iinc 1 1, 3) := by decide +kernel
theorem zd_XSight_nextPiece_91 : decode zb_XSight_nextPiece 91 = .ok (.goto (-89), 3) := by decide +kernel
theorem zd_XSight_nextPiece_94 : decode zb_XSight_nextPiece 94 = .ok (.iconst 0, 1) := by decide +kernel
theorem zd_XSight_nextPiece_95 : decode zb_XSight_nextPiece 95 = .ok (.ireturn, 1) := by decide +kernel
theorem zw_701 : (Jvm.Cond.constant "OrreryBox$Sight" (138 : Nat) (147456 : Int32)) ∈ gw := gw_t 701 (by decide +kernel) rfl
theorem zw_702 : (Jvm.Cond.methodLink "OrreryBox$Sight" (139 : Nat) ({ cls := "OrreryBox$Sight", name := "nextFace", desc := "()Z" } : Jvm.MethodName)) ∈ gw := gw_t 702 (by decide +kernel) rfl
theorem zw_704 : (Jvm.Cond.instanceMethod ({ cls := "OrreryBox$Sight", name := "nextFace", desc := "()Z" } : Jvm.MethodName)) ∈ gw := gw_t 704 (by decide +kernel) rfl
theorem zv_8 : (Jvm.Cond.selects "OrreryBox$Sight" (⟨"OrreryBox$Sight", "nextFace", "()Z"⟩ : MethodName) ⟨"OrreryBox$Sight", "nextFace", "()Z"⟩) ∈ gw := gw_s 8 (by decide +kernel) rfl
theorem zs_XSight_139 : zwV "OrreryBox$Sight" 139 "OrreryBox$Sight" zy_XSight_nextFace zb_XSight_nextFace 2 (some .boolean) := ⟨zw_702, zw_704, zv_8, zw_10, zc_XSight_nextFace⟩
set_option maxHeartbeats 4000000 in
set_option maxRecDepth 100000 in
theorem e_XSight_nextPiece (l : Launch) (D : va_G) (tA : Nat → ClassId) (b : Nat) (f : zV) (n : Nat) (fc : Int32) (c1 : Nat) (w : Int32) (h : Int32) (sc : Value) (c2 : Nat) (hg : f 1121 = some (.inr (9, [.ref (b + 1122), .int fc, .ref (b + c1), .int 0, .int 0, .int w, .int h, sc, .ref (b + (1122 + 3)), .ref (b + (1122 + 4)), .ref (b + (1122 + 53)), .int 0, .int 0, .ref (b + (1122 + 54)), .ref (b + c2)])))  : zM l D tA b zy_XSight_nextPiece zb_XSight_nextPiece 2 (some .boolean) 1 21 0 0 [.ref (b + 1121)] f n (zE (some (.int 0)) (zu (f) 1121 (.inr (9, [.ref (b + 1122), .int fc, .ref (b + c1), .int 0, .int 1, .int w, .int h, sc, .ref (b + (1122 + 3)), .ref (b + (1122 + 4)), .ref (b + (1122 + 53)), .int 0, .int 0, .ref (b + (1122 + 54)), .ref (b + c2)]))) n) := by
  refine zM_of (own := "OrreryBox$Sight") (plainFor_of_name (by decide)) rfl (Nat.le_of_ble_eq_true rfl) (fun p e s m below meth c F hr hin hH => ?_)
  refine zr_iconstv (v := 0) F zd_XSight_nextPiece_0 (by decide) ?_
  refine zr_istore_n F zd_XSight_nextPiece_1 (by decide) ?_
  refine zr_iload_n F zd_XSight_nextPiece_2 rfl ?_
  refine zr_ldc F zd_XSight_nextPiece_3 zw_701 ?_
  refine zr_icmp_ge F 94 zd_XSight_nextPiece_5 (by decide) (fun h => absurd h (by decide)) (fun _ => ?_)
  refine zr_aload_n F zd_XSight_nextPiece_8 rfl ?_
  refine zr_dup F zd_XSight_nextPiece_9 rfl ?_
  refine zr_get F 9 4 zd_XSight_nextPiece_10 hg rfl (by decide) zw_377 rfl (by rfl) ?_
  refine zr_iconstv (v := 1) F zd_XSight_nextPiece_13 (by decide) ?_
  refine zr_iadd F zd_XSight_nextPiece_14 ?_
  refine zr_toi (v' := 1) (by decide) ?_
  refine zr_put F 9 4 zd_XSight_nextPiece_15 hg rfl (by decide) zw_377 rfl rfl rfl rfl (by exact (Nat.le_of_ble_eq_true rfl)) ?_
  refine zr_norm (zu (f) 1121 (.inr (9, [.ref (b + 1122), .int fc, .ref (b + c1), .int 0, .int 1, .int w, .int h, sc, .ref (b + (1122 + 3)), .ref (b + (1122 + 4)), .ref (b + (1122 + 53)), .int 0, .int 0, .ref (b + (1122 + 54)), .ref (b + c2)]))) _ (rfl) rfl ?_
  refine zr_aload_n F zd_XSight_nextPiece_18 rfl ?_
  refine zr_get F 9 4 zd_XSight_nextPiece_19 (zu_s _ _ _) rfl (by decide) zw_377 rfl (by rfl) ?_
  refine zr_iconstv (v := 1) F zd_XSight_nextPiece_22 (by decide) ?_
  refine zr_iadd F zd_XSight_nextPiece_23 ?_
  refine zr_toi (v' := 2) (by decide) ?_
  refine zr_aload_n F zd_XSight_nextPiece_24 rfl ?_
  refine zr_get F 9 3 zd_XSight_nextPiece_25 (zu_s _ _ _) rfl (by decide) zw_376 rfl (by rfl) ?_
  refine zr_icmp_lt F 45 zd_XSight_nextPiece_28 (by decide) (fun h => absurd h (by decide)) (fun _ => ?_)
  refine zr_aload_n F zd_XSight_nextPiece_31 rfl ?_
  refine zr_callV1 F (e_XSight_nextFace l D tA b _ _ fc c1 0 1 w h sc c2 (zu_s _ _ _) ) zd_XSight_nextPiece_32 (zu_s _ _ _) rfl zs_XSight_139 rfl zq_XSight_nextFace rfl rfl ⟨(Nat.le_of_ble_eq_true rfl), (Nat.le_of_ble_eq_true rfl)⟩ (Nat.le_of_ble_eq_true rfl) ⟨(Nat.le_of_ble_eq_true rfl), (Nat.le_of_ble_eq_true rfl)⟩ ?_
  refine zr_if_ne F 40 zd_XSight_nextPiece_35 (by decide) (fun h => absurd h (by decide)) (fun _ => ?_)
  refine zr_iconstv (v := 0) F zd_XSight_nextPiece_38 (by decide) ?_
  exact zr_zret F hr rfl zd_XSight_nextPiece_39 (Nat.le_of_ble_eq_true rfl) (Nat.le_of_ble_eq_true rfl) ⟨rfl, rfl, rfl⟩
abbrev zb_XPicture_start : ByteArray := prog_6_method_2_code
def zy_XPicture_start : MethodName := ⟨"OrreryBox$Picture", "start", "(LOrreryBox$Scene;I)V"⟩
theorem zc_XPicture_start : Cond.code zy_XPicture_start zb_XPicture_start 3 none ∈ gw := gw_t 695 (by decide +kernel) rfl
theorem zq_XPicture_start : zy_XPicture_start.cls ≠ "java/lang/invoke/MethodHandle" ∧ zy_XPicture_start.cls ≠ "java/lang/invoke/VarHandle" ∧ (parseMethodDescriptor zy_XPicture_start.desc).map (fun d => d.parameters.length) = some 2 := by decide +kernel
theorem zd_XPicture_start_0 : decode zb_XPicture_start 0 = .ok (.aload_n 0, 1) := by decide +kernel
theorem zd_XPicture_start_1 : decode zb_XPicture_start 1 = .ok (.aload_n 1, 1) := by decide +kernel
theorem zd_XPicture_start_2 : decode zb_XPicture_start 2 = .ok (.putfield 47, 3) := by decide +kernel
theorem zd_XPicture_start_5 : decode zb_XPicture_start 5 = .ok (.aload_n 0, 1) := by decide +kernel
theorem zd_XPicture_start_6 : decode zb_XPicture_start 6 = .ok (.iload_n 2, 1) := by decide +kernel
theorem zd_XPicture_start_7 : decode zb_XPicture_start 7 = .ok (.putfield 51, 3) := by decide +kernel
theorem zd_XPicture_start_10 : decode zb_XPicture_start 10 = .ok (.aload_n 0, 1) := by decide +kernel
theorem zd_XPicture_start_11 : decode zb_XPicture_start 11 = .ok (.iconst 1, 1) := by decide +kernel
theorem zd_XPicture_start_12 : decode zb_XPicture_start 12 = .ok (.putfield 54, 3) := by decide +kernel
theorem zd_XPicture_start_15 : decode zb_XPicture_start 15 = .ok (.aload_n 0, 1) := by decide +kernel
theorem zd_XPicture_start_16 : decode zb_XPicture_start 16 = .ok (.lconst 0, 1) := by decide +kernel
theorem zd_XPicture_start_17 : decode zb_XPicture_start 17 = .ok (.putfield 58, 3) := by decide +kernel
theorem zd_XPicture_start_20 : decode zb_XPicture_start 20 = .ok (.aload_n 0, 1) := by decide +kernel
theorem zd_XPicture_start_21 : decode zb_XPicture_start 21 = .ok (.iconst 0, 1) := by decide +kernel
theorem zd_XPicture_start_22 : decode zb_XPicture_start 22 = .ok (.putfield 62, 3) := by decide +kernel
theorem zd_XPicture_start_25 : decode zb_XPicture_start 25 = .ok (.return_, 1) := by decide +kernel
theorem zw_435 : (Jvm.Cond.fieldLink "OrreryBox$Picture" (47 : Nat) "OrreryBox$Picture" "scene" "LOrreryBox$Scene;") ∈ gw := gw_t 435 (by decide +kernel) rfl
theorem zw_440 : (Jvm.Cond.fieldLink "OrreryBox$Picture" (51 : Nat) "OrreryBox$Picture" "ground" "I") ∈ gw := gw_t 440 (by decide +kernel) rfl
theorem zw_443 : (Jvm.Cond.fieldLink "OrreryBox$Picture" (62 : Nat) "OrreryBox$Picture" "pieceCount" "I") ∈ gw := gw_t 443 (by decide +kernel) rfl
set_option maxHeartbeats 4000000 in
set_option maxRecDepth 100000 in
theorem e_XPicture_start (l : Launch) (D : va_G) (tA : Nat → ClassId) (b : Nat) (f : zV) (n : Nat) (w : Int32) (h : Int32) (pt : Int32) (pa : Int32) (gr : Int32) (hp : f 1178 = some (.inr (5, [.int pt, .ref (b + (1179 + 4)), .ref (b + (1179 + 5)), .null, .int w, .int h, .int pa, .int 0, .ref (b + 1179), .ref (b + (1179 + 1)), .int 0, .ref (b + (1179 + 2)), .int 0, .long 0, .int 0, .int 0, .int 0, .int 0])))  : zM l D tA b zy_XPicture_start zb_XPicture_start 3 none 0 0 0 0 [.ref (b + 1178), .ref (b + 11), .int gr] f n (zE none (zu (f) 1178 (.inr (5, [.int pt, .ref (b + (1179 + 4)), .ref (b + (1179 + 5)), .ref (b + 11), .int w, .int h, .int pa, .int gr, .ref (b + 1179), .ref (b + (1179 + 1)), .int 0, .ref (b + (1179 + 2)), .int 1, .long 0, .int 0, .int 0, .int 0, .int 0]))) n) := by
  refine zM_of (own := "OrreryBox$Picture") (plainFor_of_name (by decide)) rfl (Nat.le_of_ble_eq_true rfl) (fun p e s m below meth c F hr hin hH => ?_)
  refine zr_aload_n F zd_XPicture_start_0 rfl ?_
  refine zr_aload_n F zd_XPicture_start_1 rfl ?_
  refine zr_put F 5 3 zd_XPicture_start_2 hp rfl (by decide) zw_435 rfl rfl rfl rfl (by exact (Nat.le_of_ble_eq_true rfl)) ?_
  refine zr_norm (zu (f) 1178 (.inr (5, [.int pt, .ref (b + (1179 + 4)), .ref (b + (1179 + 5)), .ref (b + 11), .int w, .int h, .int pa, .int 0, .ref (b + 1179), .ref (b + (1179 + 1)), .int 0, .ref (b + (1179 + 2)), .int 0, .long 0, .int 0, .int 0, .int 0, .int 0]))) _ (rfl) rfl ?_
  refine zr_aload_n F zd_XPicture_start_5 rfl ?_
  refine zr_iload_n F zd_XPicture_start_6 rfl ?_
  refine zr_put F 5 7 zd_XPicture_start_7 (zu_s _ _ _) rfl (by decide) zw_440 rfl rfl rfl rfl (by exact (Nat.le_of_ble_eq_true rfl)) ?_
  refine zr_norm (zu (f) 1178 (.inr (5, [.int pt, .ref (b + (1179 + 4)), .ref (b + (1179 + 5)), .ref (b + 11), .int w, .int h, .int pa, .int gr, .ref (b + 1179), .ref (b + (1179 + 1)), .int 0, .ref (b + (1179 + 2)), .int 0, .long 0, .int 0, .int 0, .int 0, .int 0]))) _ (zu_zu _ _ _ _) rfl ?_
  refine zr_aload_n F zd_XPicture_start_10 rfl ?_
  refine zr_iconstv (v := 1) F zd_XPicture_start_11 (by decide) ?_
  refine zr_put F 5 12 zd_XPicture_start_12 (zu_s _ _ _) rfl (by decide) zw_445 rfl rfl rfl rfl (by exact (Nat.le_of_ble_eq_true rfl)) ?_
  refine zr_norm (zu (f) 1178 (.inr (5, [.int pt, .ref (b + (1179 + 4)), .ref (b + (1179 + 5)), .ref (b + 11), .int w, .int h, .int pa, .int gr, .ref (b + 1179), .ref (b + (1179 + 1)), .int 0, .ref (b + (1179 + 2)), .int 1, .long 0, .int 0, .int 0, .int 0, .int 0]))) _ (zu_zu _ _ _ _) rfl ?_
  refine zr_aload_n F zd_XPicture_start_15 rfl ?_
  refine zr_lconstv (v := 0) F zd_XPicture_start_16 (by decide) ?_
  refine zr_put F 5 13 zd_XPicture_start_17 (zu_s _ _ _) rfl (by decide) zw_446 rfl rfl rfl rfl (by exact (Nat.le_of_ble_eq_true rfl)) ?_
  refine zr_norm (zu (f) 1178 (.inr (5, [.int pt, .ref (b + (1179 + 4)), .ref (b + (1179 + 5)), .ref (b + 11), .int w, .int h, .int pa, .int gr, .ref (b + 1179), .ref (b + (1179 + 1)), .int 0, .ref (b + (1179 + 2)), .int 1, .long 0, .int 0, .int 0, .int 0, .int 0]))) _ (zu_zu _ _ _ _) rfl ?_
  refine zr_aload_n F zd_XPicture_start_20 rfl ?_
  refine zr_iconstv (v := 0) F zd_XPicture_start_21 (by decide) ?_
  refine zr_put F 5 10 zd_XPicture_start_22 (zu_s _ _ _) rfl (by decide) zw_443 rfl rfl rfl rfl (by exact (Nat.le_of_ble_eq_true rfl)) ?_
  refine zr_norm (zu (f) 1178 (.inr (5, [.int pt, .ref (b + (1179 + 4)), .ref (b + (1179 + 5)), .ref (b + 11), .int w, .int h, .int pa, .int gr, .ref (b + 1179), .ref (b + (1179 + 1)), .int 0, .ref (b + (1179 + 2)), .int 1, .long 0, .int 0, .int 0, .int 0, .int 0]))) _ (zu_zu _ _ _ _) rfl ?_
  exact zr_vret F hr zd_XPicture_start_25 (Nat.le_of_ble_eq_true rfl) (Nat.le_of_ble_eq_true rfl) ⟨rfl, rfl, rfl⟩
abbrev zb_OB_begin : ByteArray := prog_1_method_15_code
def zy_OB_begin : MethodName := ⟨"OrreryBox", "begin", "()I"⟩
theorem zc_OB_begin : Cond.code zy_OB_begin zb_OB_begin 2 (some .int) ∈ gw := gw_t 621 (by decide +kernel) rfl
theorem zq_OB_begin : zy_OB_begin.cls ≠ "java/lang/invoke/MethodHandle" ∧ zy_OB_begin.cls ≠ "java/lang/invoke/VarHandle" ∧ (parseMethodDescriptor zy_OB_begin.desc).map (fun d => d.parameters.length) = some 0 := by decide +kernel
theorem zd_OB_begin_0 : decode zb_OB_begin 0 = .ok (.aload_n 0, 1) := by decide +kernel
theorem zd_OB_begin_1 : decode zb_OB_begin 1 = .ok (.getfield 49, 3) := by decide +kernel
theorem zd_OB_begin_4 : decode zb_OB_begin 4 = .ok (.invokevirtual 148, 3) := by decide +kernel
theorem zd_OB_begin_7 : decode zb_OB_begin 7 = .ok (.aload_n 0, 1) := by decide +kernel
theorem zd_OB_begin_8 : decode zb_OB_begin 8 = .ok (.getfield 58, 3) := by decide +kernel
theorem zd_OB_begin_11 : decode zb_OB_begin 11 = .ok (.aload_n 0, 1) := by decide +kernel
theorem zd_OB_begin_12 : decode zb_OB_begin 12 = .ok (.getfield 49, 3) := by decide +kernel
theorem zd_OB_begin_15 : decode zb_OB_begin 15 = .ok (.invokevirtual 154, 3) := by decide +kernel
theorem zd_OB_begin_18 : decode zb_OB_begin 18 = .ok (.aload_n 0, 1) := by decide +kernel
theorem zd_OB_begin_19 : decode zb_OB_begin 19 = .ok (.getfield 65, 3) := by decide +kernel
theorem zd_OB_begin_22 : decode zb_OB_begin 22 = .ok (.aload_n 0, 1) := by decide +kernel
theorem zd_OB_begin_23 : decode zb_OB_begin 23 = .ok (.getfield 49, 3) := by decide +kernel
theorem zd_OB_begin_26 : decode zb_OB_begin 26 = .ok (.aload_n 0, 1) := by decide +kernel
theorem zd_OB_begin_27 : decode zb_OB_begin 27 = .ok (.getfield 142, 3) := by decide +kernel
theorem zd_OB_begin_30 : decode zb_OB_begin 30 = .ok (.invokevirtual 158, 3) := by decide +kernel
theorem zd_OB_begin_33 : decode zb_OB_begin 33 = .ok (.iconst 0, 1) := by decide +kernel
theorem zd_OB_begin_34 : decode zb_OB_begin 34 = .ok (.istore_n 1, 1) := by decide +kernel
theorem zd_OB_begin_35 : decode zb_OB_begin 35 = .ok (.iload_n 1, 1) := by decide +kernel
theorem zd_OB_begin_36 : decode zb_OB_begin 36 = .ok (.ldc 162, 2) := by decide +kernel
theorem zd_OB_begin_38 : decode zb_OB_begin 38 = .ok (.if_icmp .ge 40, 3) := by decide +kernel
theorem zd_OB_begin_41 : decode zb_OB_begin 41 = .ok (.aload_n 0, 1) := by decide +kernel
theorem zd_OB_begin_42 : decode zb_OB_begin 42 = .ok (.getfield 58, 3) := by decide +kernel
theorem zd_OB_begin_45 : decode zb_OB_begin 45 = .ok (.invokevirtual 163, 3) := by decide +kernel
theorem zd_OB_begin_48 : decode zb_OB_begin 48 = .ok (.ifCond .eq 30, 3) := by decide +kernel
theorem zd_OB_begin_51 : decode zb_OB_begin 51 = .ok (.aload_n 0, 1) := by decide +kernel
theorem zd_OB_begin_52 : decode zb_OB_begin 52 = .ok (.getfield 65, 3) := by decide +kernel
theorem zd_OB_begin_55 : decode zb_OB_begin 55 = .ok (.aload_n 0, 1) := by decide +kernel
theorem zd_OB_begin_56 : decode zb_OB_begin 56 = .ok (.getfield 58, 3) := by decide +kernel
theorem zd_OB_begin_59 : decode zb_OB_begin 59 = .ok (.getfield 167, 3) := by decide +kernel
theorem zd_OB_begin_62 : decode zb_OB_begin 62 = .ok (.aload_n 0, 1) := by decide +kernel
theorem zd_OB_begin_63 : decode zb_OB_begin 63 = .ok (.getfield 58, 3) := by decide +kernel
theorem zd_OB_begin_66 : decode zb_OB_begin 66 = .ok (.invokevirtual 171, 3) := by decide +kernel
theorem zd_OB_begin_69 : decode zb_OB_begin 69 = .ok (.invokevirtual 175, 3) := by decide +kernel
theorem zd_OB_begin_72 : decode zb_OB_begin 72 = .ok (.iinc 1 1, 3) := by decide +kernel
theorem zd_OB_begin_75 : decode zb_OB_begin 75 = .ok (.goto (-40), 3) := by decide +kernel
theorem zd_OB_begin_78 : decode zb_OB_begin 78 = .ok (.aload_n 0, 1) := by decide +kernel
theorem zd_OB_begin_79 : decode zb_OB_begin 79 = .ok (.getfield 65, 3) := by decide +kernel
theorem zd_OB_begin_82 : decode zb_OB_begin 82 = .ok (.getfield 179, 3) := by decide +kernel
theorem zd_OB_begin_85 : decode zb_OB_begin 85 = .ok (.ireturn, 1) := by decide +kernel
theorem zw_622 : (Jvm.Cond.methodLink "OrreryBox" (148 : Nat) ({ cls := "OrreryBox$Scene", name := "placeNodes", desc := "()V" } : Jvm.MethodName)) ∈ gw := gw_t 622 (by decide +kernel) rfl
theorem zw_623 : (Jvm.Cond.instanceMethod ({ cls := "OrreryBox$Scene", name := "placeNodes", desc := "()V" } : Jvm.MethodName)) ∈ gw := gw_t 623 (by decide +kernel) rfl
theorem zw_624 : (Jvm.Cond.selects "OrreryBox$Scene" ({ cls := "OrreryBox$Scene", name := "placeNodes", desc := "()V" } : Jvm.MethodName) ({ cls := "OrreryBox$Scene", name := "placeNodes", desc := "()V" } : Jvm.MethodName)) ∈ gw := gw_t 624 (by decide +kernel) rfl
theorem zs_OB_148 : zwV "OrreryBox" 148 "OrreryBox$Scene" zy_XScene_placeNodes zb_XScene_placeNodes 3 none := ⟨zw_622, zw_623, zw_624, zw_5, zc_XScene_placeNodes⟩
theorem zw_664 : (Jvm.Cond.methodLink "OrreryBox" (154 : Nat) ({ cls := "OrreryBox$Sight", name := "stand", desc := "(LOrreryBox$Scene;)V" } : Jvm.MethodName)) ∈ gw := gw_t 664 (by decide +kernel) rfl
theorem zw_665 : (Jvm.Cond.instanceMethod ({ cls := "OrreryBox$Sight", name := "stand", desc := "(LOrreryBox$Scene;)V" } : Jvm.MethodName)) ∈ gw := gw_t 665 (by decide +kernel) rfl
theorem zw_666 : (Jvm.Cond.selects "OrreryBox$Sight" ({ cls := "OrreryBox$Sight", name := "stand", desc := "(LOrreryBox$Scene;)V" } : Jvm.MethodName) ({ cls := "OrreryBox$Sight", name := "stand", desc := "(LOrreryBox$Scene;)V" } : Jvm.MethodName)) ∈ gw := gw_t 666 (by decide +kernel) rfl
theorem zs_OB_154 : zwV "OrreryBox" 154 "OrreryBox$Sight" zy_XSight_stand zb_XSight_stand 4 none := ⟨zw_664, zw_665, zw_666, zw_10, zc_XSight_stand⟩
theorem zw_692 : (Jvm.Cond.methodLink "OrreryBox" (158 : Nat) ({ cls := "OrreryBox$Picture", name := "start", desc := "(LOrreryBox$Scene;I)V" } : Jvm.MethodName)) ∈ gw := gw_t 692 (by decide +kernel) rfl
theorem zw_693 : (Jvm.Cond.instanceMethod ({ cls := "OrreryBox$Picture", name := "start", desc := "(LOrreryBox$Scene;I)V" } : Jvm.MethodName)) ∈ gw := gw_t 693 (by decide +kernel) rfl
theorem zw_694 : (Jvm.Cond.selects "OrreryBox$Picture" ({ cls := "OrreryBox$Picture", name := "start", desc := "(LOrreryBox$Scene;I)V" } : Jvm.MethodName) ({ cls := "OrreryBox$Picture", name := "start", desc := "(LOrreryBox$Scene;I)V" } : Jvm.MethodName)) ∈ gw := gw_t 694 (by decide +kernel) rfl
theorem zs_OB_158 : zwV "OrreryBox" 158 "OrreryBox$Picture" zy_XPicture_start zb_XPicture_start 3 none := ⟨zw_692, zw_693, zw_694, zw_12, zc_XPicture_start⟩
theorem zw_696 : (Jvm.Cond.constant "OrreryBox" (162 : Nat) (36864 : Int32)) ∈ gw := gw_t 696 (by decide +kernel) rfl
theorem zw_697 : (Jvm.Cond.methodLink "OrreryBox" (163 : Nat) ({ cls := "OrreryBox$Sight", name := "nextPiece", desc := "()Z" } : Jvm.MethodName)) ∈ gw := gw_t 697 (by decide +kernel) rfl
theorem zw_698 : (Jvm.Cond.instanceMethod ({ cls := "OrreryBox$Sight", name := "nextPiece", desc := "()Z" } : Jvm.MethodName)) ∈ gw := gw_t 698 (by decide +kernel) rfl
theorem zw_699 : (Jvm.Cond.selects "OrreryBox$Sight" ({ cls := "OrreryBox$Sight", name := "nextPiece", desc := "()Z" } : Jvm.MethodName) ({ cls := "OrreryBox$Sight", name := "nextPiece", desc := "()Z" } : Jvm.MethodName)) ∈ gw := gw_t 699 (by decide +kernel) rfl
theorem zs_OB_163 : zwV "OrreryBox" 163 "OrreryBox$Sight" zy_XSight_nextPiece zb_XSight_nextPiece 2 (some .boolean) := ⟨zw_697, zw_698, zw_699, zw_10, zc_XSight_nextPiece⟩
theorem zw_430 : (Jvm.Cond.fieldLink "OrreryBox" (179 : Nat) "OrreryBox$Picture" "tiles" "I") ∈ gw := gw_t 430 (by decide +kernel) rfl
set_option maxHeartbeats 4000000 in
set_option maxRecDepth 100000 in
theorem e_OB_begin (l : Launch) (D : va_G) (tA : Nat → ClassId) (b : Nat) (f : zV) (n : Nat) (w : Int32) (h : Int32) (pt : Int32) (pa : Int32) (gc : Nat → Int32) (gv : Nat → Int32) (g : Nat → Int32) (h0 : f 0 = some (.inr (0, [.int w, .int h, .ref (b + 1), .int 0, .ref (b + 2), .ref (b + 11), .ref (b + 3), .ref (b + 1121), .ref (b + 1178), .ref (b + 5), .int 0, .int (-1)]))) (hs : f 11 = some (.inr (8, zsO b 12 0 0))) (hc : f 12 = some (.inl (tA 0, 5, .inl (gc)))) (hw : f ((12 + 22)) = some (.inl (tA 0, 7, .inl (gv)))) (hp : f 1178 = some (.inr (5, [.int pt, .ref (b + (1179 + 4)), .ref (b + (1179 + 5)), .null, .int w, .int h, .int pa, .int 0, .ref (b + 1179), .ref (b + (1179 + 1)), .int 0, .ref (b + (1179 + 2)), .int 0, .long 0, .int 0, .int 0, .int 0, .int 0]))) (hg : f 1121 = some (.inr (9, [.ref (b + 1122), .int 0, .ref (b + (1122 + 2)), .int 0, .int 0, .int w, .int h, .null, .ref (b + (1122 + 3)), .ref (b + (1122 + 4)), .ref (b + (1122 + 53)), .int 0, .int 0, .ref (b + (1122 + 54)), .ref (b + (1122 + 55))]))) (hv : f ((1122 + 3)) = some (.inl (tA 0, 12, .inl (g)))) (k3 : gc (3 : Int32).toNatClampNeg = 0) : zM l D tA b zy_OB_begin zb_OB_begin 2 (some .int) 6 147 0 0 [.ref (b + 0)] f n (zE (some (.int pt)) (zu (zu (zu (zu (f) 11 (.inr (8, [.ref (b + 12), .ref (b + (12 + 1)), .ref (b + (12 + 2)), .ref (b + (12 + 19)), .ref (b + (12 + 20)), .ref (b + (12 + 21)), .ref (b + (12 + 22)), .ref (b + (12 + 23)), .int 0, .int 1, .ref (b + (12 + 24))]))) 1121 (.inr (9, [.ref (b + 1122), .int (-1), .ref (b + (1122 + 2)), .int 0, .int 1, .int w, .int h, .ref (b + 11), .ref (b + (1122 + 3)), .ref (b + (1122 + 4)), .ref (b + (1122 + 53)), .int 0, .int 0, .ref (b + (1122 + 54)), .ref (b + (1122 + 55))]))) ((1122 + 3)) (.inl (tA 0, 12, .inl ((sg_XSight_placeView gv g))))) 1178 (.inr (5, [.int pt, .ref (b + (1179 + 4)), .ref (b + (1179 + 5)), .ref (b + 11), .int w, .int h, .int pa, .int 0, .ref (b + 1179), .ref (b + (1179 + 1)), .int 0, .ref (b + (1179 + 2)), .int 1, .long 0, .int 0, .int 0, .int 0, .int 0]))) n) := by
  refine zM_of (own := "OrreryBox") (plainFor_of_name (by decide)) rfl (Nat.le_of_ble_eq_true rfl) (fun p e s m below meth c F hr hin hH => ?_)
  refine zr_aload_n F zd_OB_begin_0 rfl ?_
  refine zr_get F 0 5 zd_OB_begin_1 h0 rfl (by decide) zw_493 rfl (by rfl) ?_
  refine zr_callV0 F (e_XScene_placeNodes l D tA b _ _ gc hs hc k3) zd_OB_begin_4 hs rfl zs_OB_148 rfl zq_XScene_placeNodes rfl rfl ⟨(Nat.le_of_ble_eq_true rfl), (Nat.le_of_ble_eq_true rfl)⟩ (Nat.le_of_ble_eq_true rfl) ⟨(Nat.le_of_ble_eq_true rfl), (Nat.le_of_ble_eq_true rfl)⟩ ?_
  refine zr_norm (zu (f) 11 (.inr (8, [.ref (b + 12), .ref (b + (12 + 1)), .ref (b + (12 + 2)), .ref (b + (12 + 19)), .ref (b + (12 + 20)), .ref (b + (12 + 21)), .ref (b + (12 + 22)), .ref (b + (12 + 23)), .int 0, .int 1, .ref (b + (12 + 24))]))) _ (rfl) rfl ?_
  refine zr_aload_n F zd_OB_begin_7 rfl ?_
  refine zr_get F 0 7 zd_OB_begin_8 ((zu_n _ (by omega)).trans h0) rfl (by decide) zw_495 rfl (by rfl) ?_
  refine zr_aload_n F zd_OB_begin_11 rfl ?_
  refine zr_get F 0 5 zd_OB_begin_12 ((zu_n _ (by omega)).trans h0) rfl (by decide) zw_493 rfl (by rfl) ?_
  refine zr_callV0 F (e_XSight_stand l D tA b _ _ 0 (1122 + 2) 0 0 w h (.null) 0 0 (1122 + 55) 0 1 gc gv g ((zu_n _ (by omega)).trans hg) ((zu_n _ (by omega)).trans hv) (zu_s _ _ _) ((zu_n _ (by omega)).trans hc) ((zu_n _ (by omega)).trans hw) k3) zd_OB_begin_15 ((zu_n _ (by omega)).trans hg) rfl zs_OB_154 rfl zq_XSight_stand rfl rfl ⟨(Nat.le_of_ble_eq_true rfl), (Nat.le_of_ble_eq_true rfl)⟩ (Nat.le_of_ble_eq_true rfl) ⟨(Nat.le_of_ble_eq_true rfl), (Nat.le_of_ble_eq_true rfl)⟩ ?_
  refine zr_norm (zu (zu (zu (f) 11 (.inr (8, [.ref (b + 12), .ref (b + (12 + 1)), .ref (b + (12 + 2)), .ref (b + (12 + 19)), .ref (b + (12 + 20)), .ref (b + (12 + 21)), .ref (b + (12 + 22)), .ref (b + (12 + 23)), .int 0, .int 1, .ref (b + (12 + 24))]))) 1121 (.inr (9, [.ref (b + 1122), .int (-1), .ref (b + (1122 + 2)), .int 0, .int 0, .int w, .int h, .ref (b + 11), .ref (b + (1122 + 3)), .ref (b + (1122 + 4)), .ref (b + (1122 + 53)), .int 0, .int 0, .ref (b + (1122 + 54)), .ref (b + (1122 + 55))]))) ((1122 + 3)) (.inl (tA 0, 12, .inl ((sg_XSight_placeView gv g))))) _ (rfl) rfl ?_
  refine zr_aload_n F zd_OB_begin_18 rfl ?_
  refine zr_get F 0 8 zd_OB_begin_19 ((zu_n _ (by omega)).trans ((zu_n _ (by omega)).trans ((zu_n _ (by omega)).trans h0))) rfl (by decide) zw_496 rfl (by rfl) ?_
  refine zr_aload_n F zd_OB_begin_22 rfl ?_
  refine zr_get F 0 5 zd_OB_begin_23 ((zu_n _ (by omega)).trans ((zu_n _ (by omega)).trans ((zu_n _ (by omega)).trans h0))) rfl (by decide) zw_493 rfl (by rfl) ?_
  refine zr_aload_n F zd_OB_begin_26 rfl ?_
  refine zr_get F 0 10 zd_OB_begin_27 ((zu_n _ (by omega)).trans ((zu_n _ (by omega)).trans ((zu_n _ (by omega)).trans h0))) rfl (by decide) zw_498 rfl (by rfl) ?_
  refine zr_callV0 F (e_XPicture_start l D tA b _ _ w h pt pa 0 ((zu_n _ (by omega)).trans ((zu_n _ (by omega)).trans ((zu_n _ (by omega)).trans hp))) ) zd_OB_begin_30 ((zu_n _ (by omega)).trans ((zu_n _ (by omega)).trans ((zu_n _ (by omega)).trans hp))) rfl zs_OB_158 rfl zq_XPicture_start rfl rfl ⟨(Nat.le_of_ble_eq_true rfl), (Nat.le_of_ble_eq_true rfl)⟩ (Nat.le_of_ble_eq_true rfl) ⟨(Nat.le_of_ble_eq_true rfl), (Nat.le_of_ble_eq_true rfl)⟩ ?_
  refine zr_norm (zu (zu (zu (zu (f) 11 (.inr (8, [.ref (b + 12), .ref (b + (12 + 1)), .ref (b + (12 + 2)), .ref (b + (12 + 19)), .ref (b + (12 + 20)), .ref (b + (12 + 21)), .ref (b + (12 + 22)), .ref (b + (12 + 23)), .int 0, .int 1, .ref (b + (12 + 24))]))) 1121 (.inr (9, [.ref (b + 1122), .int (-1), .ref (b + (1122 + 2)), .int 0, .int 0, .int w, .int h, .ref (b + 11), .ref (b + (1122 + 3)), .ref (b + (1122 + 4)), .ref (b + (1122 + 53)), .int 0, .int 0, .ref (b + (1122 + 54)), .ref (b + (1122 + 55))]))) ((1122 + 3)) (.inl (tA 0, 12, .inl ((sg_XSight_placeView gv g))))) 1178 (.inr (5, [.int pt, .ref (b + (1179 + 4)), .ref (b + (1179 + 5)), .ref (b + 11), .int w, .int h, .int pa, .int 0, .ref (b + 1179), .ref (b + (1179 + 1)), .int 0, .ref (b + (1179 + 2)), .int 1, .long 0, .int 0, .int 0, .int 0, .int 0]))) _ (rfl) rfl ?_
  refine zr_iconstv (v := 0) F zd_OB_begin_33 (by decide) ?_
  refine zr_istore_n F zd_OB_begin_34 (by decide) ?_
  refine zr_iload_n F zd_OB_begin_35 rfl ?_
  refine zr_ldc F zd_OB_begin_36 zw_696 ?_
  refine zr_icmp_ge F 78 zd_OB_begin_38 (by decide) (fun h => absurd h (by decide)) (fun _ => ?_)
  refine zr_aload_n F zd_OB_begin_41 rfl ?_
  refine zr_get F 0 7 zd_OB_begin_42 ((zu_n _ (by omega)).trans ((zu_n _ (by omega)).trans ((zu_n _ (by omega)).trans ((zu_n _ (by omega)).trans h0)))) rfl (by decide) zw_495 rfl (by rfl) ?_
  refine zr_callV1 F (e_XSight_nextPiece l D tA b _ _ (-1) (1122 + 2) w h (.ref (b + 11)) (1122 + 55) ((zu_n _ (by omega)).trans ((zu_n _ (by omega)).trans (zu_s _ _ _))) ) zd_OB_begin_45 ((zu_n _ (by omega)).trans ((zu_n _ (by omega)).trans (zu_s _ _ _))) rfl zs_OB_163 rfl zq_XSight_nextPiece rfl rfl ⟨(Nat.le_of_ble_eq_true rfl), (Nat.le_of_ble_eq_true rfl)⟩ (Nat.le_of_ble_eq_true rfl) ⟨(Nat.le_of_ble_eq_true rfl), (Nat.le_of_ble_eq_true rfl)⟩ ?_
  refine zr_norm (zu (zu (zu (zu (f) 11 (.inr (8, [.ref (b + 12), .ref (b + (12 + 1)), .ref (b + (12 + 2)), .ref (b + (12 + 19)), .ref (b + (12 + 20)), .ref (b + (12 + 21)), .ref (b + (12 + 22)), .ref (b + (12 + 23)), .int 0, .int 1, .ref (b + (12 + 24))]))) 1121 (.inr (9, [.ref (b + 1122), .int (-1), .ref (b + (1122 + 2)), .int 0, .int 1, .int w, .int h, .ref (b + 11), .ref (b + (1122 + 3)), .ref (b + (1122 + 4)), .ref (b + (1122 + 53)), .int 0, .int 0, .ref (b + (1122 + 54)), .ref (b + (1122 + 55))]))) ((1122 + 3)) (.inl (tA 0, 12, .inl ((sg_XSight_placeView gv g))))) 1178 (.inr (5, [.int pt, .ref (b + (1179 + 4)), .ref (b + (1179 + 5)), .ref (b + 11), .int w, .int h, .int pa, .int 0, .ref (b + 1179), .ref (b + (1179 + 1)), .int 0, .ref (b + (1179 + 2)), .int 1, .long 0, .int 0, .int 0, .int 0, .int 0]))) _ (zu_mid2 (by omega) (by omega)) rfl ?_
  refine zr_if_eq F 78 zd_OB_begin_48 (by decide) (fun _ => ?_) (fun h => absurd h (by decide))
  refine zr_aload_n F zd_OB_begin_78 rfl ?_
  refine zr_get F 0 8 zd_OB_begin_79 ((zu_n _ (by omega)).trans ((zu_n _ (by omega)).trans ((zu_n _ (by omega)).trans ((zu_n _ (by omega)).trans h0)))) rfl (by decide) zw_496 rfl (by rfl) ?_
  refine zr_get F 5 0 zd_OB_begin_82 (zu_s _ _ _) rfl (by decide) zw_430 rfl (by rfl) ?_
  exact zr_iret F hr zd_OB_begin_85 (Nat.le_of_ble_eq_true rfl) (Nat.le_of_ble_eq_true rfl) ⟨rfl, rfl, rfl⟩
set_option maxHeartbeats 4000000 in
set_option maxRecDepth 100000 in
theorem e_XPicture_lacks (l : Launch) (D : va_G) (tA : Nat → ClassId) (b : Nat) (f : zV) (n : Nat) (k : Int32) (w : Int32) (h : Int32) (pt : Int32) (pa : Int32) (hp : f 1178 = some (.inr (5, [.int pt, .ref (b + (1179 + 4)), .ref (b + (1179 + 5)), .null, .int w, .int h, .int pa, .int 0, .ref (b + 1179), .ref (b + (1179 + 1)), .int 0, .ref (b + (1179 + 2)), .int 0, .long 0, .int 0, .int 0, .int 0, .int 0])))  : zM l D tA b zy_XPicture_lacks zb_XPicture_lacks 2 (some .boolean) 0 0 0 0 [.ref (b + 1178), .int k] f n (zE (some (.int 0)) f n) := by
  refine zM_of (own := "OrreryBox$Picture") (plainFor_of_name (by decide)) rfl (Nat.le_of_ble_eq_true rfl) (fun p e s m below meth c F hr hin hH => ?_)
  refine zr_aload_n F zd_XPicture_lacks_0 rfl ?_
  refine zr_get F 5 12 zd_XPicture_lacks_1 hp rfl (by decide) zw_445 rfl (by rfl) ?_
  refine zr_if_eq F 36 zd_XPicture_lacks_4 (by decide) (fun _ => ?_) (fun h => absurd h (by decide))
  refine zr_iconstv (v := 0) F zd_XPicture_lacks_36 (by decide) ?_
  exact zr_zret F hr rfl zd_XPicture_lacks_37 (Nat.le_of_ble_eq_true rfl) (Nat.le_of_ble_eq_true rfl) ⟨rfl, rfl, rfl⟩
abbrev zb_OB_tile : ByteArray := prog_1_method_16_code
def zy_OB_tile : MethodName := ⟨"OrreryBox", "tile", "(I)Z"⟩
theorem zc_OB_tile : Cond.code zy_OB_tile zb_OB_tile 2 (some .boolean) ∈ gw := gw_t 771 (by decide +kernel) rfl
theorem zq_OB_tile : zy_OB_tile.cls ≠ "java/lang/invoke/MethodHandle" ∧ zy_OB_tile.cls ≠ "java/lang/invoke/VarHandle" ∧ (parseMethodDescriptor zy_OB_tile.desc).map (fun d => d.parameters.length) = some 1 := by decide +kernel
theorem zd_OB_tile_0 : decode zb_OB_tile 0 = .ok (.aload_n 0, 1) := by decide +kernel
theorem zd_OB_tile_1 : decode zb_OB_tile 1 = .ok (.getfield 65, 3) := by decide +kernel
theorem zd_OB_tile_4 : decode zb_OB_tile 4 = .ok (.iload_n 1, 1) := by decide +kernel
theorem zd_OB_tile_5 : decode zb_OB_tile 5 = .ok (.invokevirtual 182, 3) := by decide +kernel
theorem zd_OB_tile_8 : decode zb_OB_tile 8 = .ok (.ifCond .ne 5, 3) := by decide +kernel
theorem zd_OB_tile_11 : decode zb_OB_tile 11 = .ok (.iconst 0, 1) := by decide +kernel
theorem zd_OB_tile_12 : decode zb_OB_tile 12 = .ok (.ireturn, 1) := by decide +kernel
theorem zd_OB_tile_13 : decode zb_OB_tile 13 = .ok (.aload_n 0, 1) := by decide +kernel
theorem zd_OB_tile_14 : decode zb_OB_tile 14 = .ok (.getfield 65, 3) := by decide +kernel
theorem zd_OB_tile_17 : decode zb_OB_tile 17 = .ok (.iload_n 1, 1) := by decide +kernel
theorem zd_OB_tile_18 : decode zb_OB_tile 18 = .ok (.invokevirtual 185, 3) := by decide +kernel
theorem zd_OB_tile_21 : decode zb_OB_tile 21 = .ok (.iconst 1, 1) := by decide +kernel
theorem zd_OB_tile_22 : decode zb_OB_tile 22 = .ok (.ireturn, 1) := by decide +kernel
theorem zw_772 : (Jvm.Cond.methodLink "OrreryBox" (182 : Nat) ({ cls := "OrreryBox$Picture", name := "lacks", desc := "(I)Z" } : Jvm.MethodName)) ∈ gw := gw_t 772 (by decide +kernel) rfl
theorem zw_773 : (Jvm.Cond.instanceMethod ({ cls := "OrreryBox$Picture", name := "lacks", desc := "(I)Z" } : Jvm.MethodName)) ∈ gw := gw_t 773 (by decide +kernel) rfl
theorem zw_774 : (Jvm.Cond.selects "OrreryBox$Picture" ({ cls := "OrreryBox$Picture", name := "lacks", desc := "(I)Z" } : Jvm.MethodName) ({ cls := "OrreryBox$Picture", name := "lacks", desc := "(I)Z" } : Jvm.MethodName)) ∈ gw := gw_t 774 (by decide +kernel) rfl
theorem zs_OB_182 : zwV "OrreryBox" 182 "OrreryBox$Picture" zy_XPicture_lacks zb_XPicture_lacks 2 (some .boolean) := ⟨zw_772, zw_773, zw_774, zw_12, zc_XPicture_lacks⟩
set_option maxHeartbeats 4000000 in
set_option maxRecDepth 100000 in
theorem e_OB_tile (l : Launch) (D : va_G) (tA : Nat → ClassId) (b : Nat) (f : zV) (n : Nat) (k : Int32) (w : Int32) (h : Int32) (pt : Int32) (pa : Int32) (h0 : f 0 = some (.inr (0, [.int w, .int h, .ref (b + 1), .int 0, .ref (b + 2), .ref (b + 11), .ref (b + 3), .ref (b + 1121), .ref (b + 1178), .ref (b + 5), .int 0, .int (-1)]))) (hp : f 1178 = some (.inr (5, [.int pt, .ref (b + (1179 + 4)), .ref (b + (1179 + 5)), .null, .int w, .int h, .int pa, .int 0, .ref (b + 1179), .ref (b + (1179 + 1)), .int 0, .ref (b + (1179 + 2)), .int 0, .long 0, .int 0, .int 0, .int 0, .int 0])))  : zM l D tA b zy_OB_tile zb_OB_tile 2 (some .boolean) 1 21 0 0 [.ref (b + 0), .int k] f n (zE (some (.int 0)) f n) := by
  refine zM_of (own := "OrreryBox") (plainFor_of_name (by decide)) rfl (Nat.le_of_ble_eq_true rfl) (fun p e s m below meth c F hr hin hH => ?_)
  refine zr_aload_n F zd_OB_tile_0 rfl ?_
  refine zr_get F 0 8 zd_OB_tile_1 h0 rfl (by decide) zw_496 rfl (by rfl) ?_
  refine zr_iload_n F zd_OB_tile_4 rfl ?_
  refine zr_callV1 F (e_XPicture_lacks l D tA b _ _ k w h pt pa hp ) zd_OB_tile_5 hp rfl zs_OB_182 rfl zq_XPicture_lacks rfl rfl ⟨(Nat.le_of_ble_eq_true rfl), (Nat.le_of_ble_eq_true rfl)⟩ (Nat.le_of_ble_eq_true rfl) ⟨(Nat.le_of_ble_eq_true rfl), (Nat.le_of_ble_eq_true rfl)⟩ ?_
  refine zr_if_ne F 13 zd_OB_tile_8 (by decide) (fun h => absurd h (by decide)) (fun _ => ?_)
  refine zr_iconstv (v := 0) F zd_OB_tile_11 (by decide) ?_
  exact zr_zret F hr rfl zd_OB_tile_12 (Nat.le_of_ble_eq_true rfl) (Nat.le_of_ble_eq_true rfl) ⟨rfl, rfl, rfl⟩
set_option maxHeartbeats 4000000 in
set_option maxRecDepth 100000 in
theorem e_XPicture_shows (l : Launch) (D : va_G) (tA : Nat → ClassId) (b : Nat) (f : zV) (n : Nat) (x : Int32) (y : Int32) (w : Int32) (h : Int32) (pt : Int32) (pa : Int32) (hp : f 1178 = some (.inr (5, [.int pt, .ref (b + (1179 + 4)), .ref (b + (1179 + 5)), .null, .int w, .int h, .int pa, .int 0, .ref (b + 1179), .ref (b + (1179 + 1)), .int 0, .ref (b + (1179 + 2)), .int 0, .long 0, .int 0, .int 0, .int 0, .int 0])))  : zM l D tA b zy_XPicture_shows zb_XPicture_shows 3 (some .boolean) 0 0 0 0 [.ref (b + 1178), .int x, .int y] f n (zE (some (.int 0)) f n) := by
  refine zM_of (own := "OrreryBox$Picture") (plainFor_of_name (by decide)) rfl (Nat.le_of_ble_eq_true rfl) (fun p e s m below meth c F hr hin hH => ?_)
  refine zr_aload_n F zd_XPicture_shows_0 rfl ?_
  refine zr_get F 5 12 zd_XPicture_shows_1 hp rfl (by decide) zw_445 rfl (by rfl) ?_
  refine zr_if_eq F 37 zd_XPicture_shows_4 (by decide) (fun _ => ?_) (fun h => absurd h (by decide))
  refine zr_iconstv (v := 0) F zd_XPicture_shows_37 (by decide) ?_
  exact zr_zret F hr rfl zd_XPicture_shows_38 (Nat.le_of_ble_eq_true rfl) (Nat.le_of_ble_eq_true rfl) ⟨rfl, rfl, rfl⟩
set_option maxHeartbeats 4000000 in
set_option maxRecDepth 100000 in
theorem e_XPicture_isWhole (l : Launch) (D : va_G) (tA : Nat → ClassId) (b : Nat) (f : zV) (n : Nat) (w : Int32) (h : Int32) (pt : Int32) (pa : Int32) (hp : f 1178 = some (.inr (5, [.int pt, .ref (b + (1179 + 4)), .ref (b + (1179 + 5)), .null, .int w, .int h, .int pa, .int 0, .ref (b + 1179), .ref (b + (1179 + 1)), .int 0, .ref (b + (1179 + 2)), .int 0, .long 0, .int 0, .int 0, .int 0, .int 0])))  : zM l D tA b zy_XPicture_isWhole zb_XPicture_isWhole 1 (some .boolean) 0 0 0 0 [.ref (b + 1178)] f n (zE (some (.int 0)) f n) := by
  refine zM_of (own := "OrreryBox$Picture") (plainFor_of_name (by decide)) rfl (Nat.le_of_ble_eq_true rfl) (fun p e s m below meth c F hr hin hH => ?_)
  refine zr_aload_n F zd_XPicture_isWhole_0 rfl ?_
  refine zr_get F 5 12 zd_XPicture_isWhole_1 hp rfl (by decide) zw_445 rfl (by rfl) ?_
  refine zr_if_eq F 27 zd_XPicture_isWhole_4 (by decide) (fun _ => ?_) (fun h => absurd h (by decide))
  refine zr_iconstv (v := 0) F zd_XPicture_isWhole_27 (by decide) ?_
  exact zr_zret F hr rfl zd_XPicture_isWhole_28 (Nat.le_of_ble_eq_true rfl) (Nat.le_of_ble_eq_true rfl) ⟨rfl, rfl, rfl⟩
abbrev zb_OB_pixel : ByteArray := prog_1_method_17_code
def zy_OB_pixel : MethodName := ⟨"OrreryBox", "pixel", "(II)I"⟩
theorem zc_OB_pixel : Cond.code zy_OB_pixel zb_OB_pixel 3 (some .int) ∈ gw := gw_t 863 (by decide +kernel) rfl
theorem zq_OB_pixel : zy_OB_pixel.cls ≠ "java/lang/invoke/MethodHandle" ∧ zy_OB_pixel.cls ≠ "java/lang/invoke/VarHandle" ∧ (parseMethodDescriptor zy_OB_pixel.desc).map (fun d => d.parameters.length) = some 2 := by decide +kernel
theorem zd_OB_pixel_0 : decode zb_OB_pixel 0 = .ok (.aload_n 0, 1) := by decide +kernel
theorem zd_OB_pixel_1 : decode zb_OB_pixel 1 = .ok (.iload_n 1, 1) := by decide +kernel
theorem zd_OB_pixel_2 : decode zb_OB_pixel 2 = .ok (.iload_n 2, 1) := by decide +kernel
theorem zd_OB_pixel_3 : decode zb_OB_pixel 3 = .ok (.invokevirtual 188, 3) := by decide +kernel
theorem zd_OB_pixel_6 : decode zb_OB_pixel 6 = .ok (.ifCond .eq 34, 3) := by decide +kernel
theorem zd_OB_pixel_9 : decode zb_OB_pixel 9 = .ok (.aload_n 0, 1) := by decide +kernel
theorem zd_OB_pixel_10 : decode zb_OB_pixel 10 = .ok (.getfield 65, 3) := by decide +kernel
theorem zd_OB_pixel_13 : decode zb_OB_pixel 13 = .ok (.iload_n 1, 1) := by decide +kernel
theorem zd_OB_pixel_14 : decode zb_OB_pixel 14 = .ok (.iload_n 2, 1) := by decide +kernel
theorem zd_OB_pixel_15 : decode zb_OB_pixel 15 = .ok (.invokevirtual 192, 3) := by decide +kernel
theorem zd_OB_pixel_18 : decode zb_OB_pixel 18 = .ok (.ifCond .eq 22, 3) := by decide +kernel
theorem zd_OB_pixel_21 : decode zb_OB_pixel 21 = .ok (.aload_n 0, 1) := by decide +kernel
theorem zd_OB_pixel_22 : decode zb_OB_pixel 22 = .ok (.getfield 65, 3) := by decide +kernel
theorem zd_OB_pixel_25 : decode zb_OB_pixel 25 = .ok (.getfield 195, 3) := by decide +kernel
theorem zd_OB_pixel_28 : decode zb_OB_pixel 28 = .ok (.iload_n 2, 1) := by decide +kernel
theorem zd_OB_pixel_29 : decode zb_OB_pixel 29 = .ok (.aload_n 0, 1) := by decide +kernel
theorem zd_OB_pixel_30 : decode zb_OB_pixel 30 = .ok (.getfield 42, 3) := by decide +kernel
theorem zd_OB_pixel_33 : decode zb_OB_pixel 33 = .ok (.imul, 1) := by decide +kernel
theorem zd_OB_pixel_34 : decode zb_OB_pixel 34 = .ok (.iload_n 1, 1) := by decide +kernel
theorem zd_OB_pixel_35 : decode zb_OB_pixel 35 = .ok (.iadd, 1) := by decide +kernel
theorem zd_OB_pixel_36 : decode zb_OB_pixel 36 = .ok (.iaload, 1) := by decide +kernel
theorem zd_OB_pixel_37 : decode zb_OB_pixel 37 = .ok (.goto 4, 3) := by decide +kernel
theorem zd_OB_pixel_40 : decode zb_OB_pixel 40 = .ok (.iconst (-1), 1) := by decide +kernel
theorem zd_OB_pixel_41 : decode zb_OB_pixel 41 = .ok (.ireturn, 1) := by decide +kernel
theorem zw_864 : (Jvm.Cond.methodLink "OrreryBox" (188 : Nat) ({ cls := "OrreryBox", name := "hasPixel", desc := "(II)Z" } : Jvm.MethodName)) ∈ gw := gw_t 864 (by decide +kernel) rfl
theorem zw_866 : (Jvm.Cond.instanceMethod ({ cls := "OrreryBox", name := "hasPixel", desc := "(II)Z" } : Jvm.MethodName)) ∈ gw := gw_t 866 (by decide +kernel) rfl
theorem zv_25 : (Jvm.Cond.selects "OrreryBox" (⟨"OrreryBox", "hasPixel", "(II)Z"⟩ : MethodName) ⟨"OrreryBox", "hasPixel", "(II)Z"⟩) ∈ gw := gw_s 25 (by decide +kernel) rfl
theorem zs_OB_188 : zwV "OrreryBox" 188 "OrreryBox" zy_OB_hasPixel zb_OB_hasPixel 3 (some .boolean) := ⟨zw_864, zw_866, zv_25, zw_1, zc_OB_hasPixel⟩
theorem zw_868 : (Jvm.Cond.methodLink "OrreryBox" (192 : Nat) ({ cls := "OrreryBox$Picture", name := "shows", desc := "(II)Z" } : Jvm.MethodName)) ∈ gw := gw_t 868 (by decide +kernel) rfl
theorem zw_869 : (Jvm.Cond.instanceMethod ({ cls := "OrreryBox$Picture", name := "shows", desc := "(II)Z" } : Jvm.MethodName)) ∈ gw := gw_t 869 (by decide +kernel) rfl
theorem zw_870 : (Jvm.Cond.selects "OrreryBox$Picture" ({ cls := "OrreryBox$Picture", name := "shows", desc := "(II)Z" } : Jvm.MethodName) ({ cls := "OrreryBox$Picture", name := "shows", desc := "(II)Z" } : Jvm.MethodName)) ∈ gw := gw_t 870 (by decide +kernel) rfl
theorem zs_OB_192 : zwV "OrreryBox" 192 "OrreryBox$Picture" zy_XPicture_shows zb_XPicture_shows 3 (some .boolean) := ⟨zw_868, zw_869, zw_870, zw_12, zc_XPicture_shows⟩
set_option maxHeartbeats 4000000 in
set_option maxRecDepth 100000 in
theorem e_OB_pixel (l : Launch) (D : va_G) (tA : Nat → ClassId) (b : Nat) (f : zV) (n : Nat) (x : Int32) (y : Int32) (w : Int32) (h : Int32) (pt : Int32) (pa : Int32) (h0 : f 0 = some (.inr (0, [.int w, .int h, .ref (b + 1), .int 0, .ref (b + 2), .ref (b + 11), .ref (b + 3), .ref (b + 1121), .ref (b + 1178), .ref (b + 5), .int 0, .int (-1)]))) (hp : f 1178 = some (.inr (5, [.int pt, .ref (b + (1179 + 4)), .ref (b + (1179 + 5)), .null, .int w, .int h, .int pa, .int 0, .ref (b + 1179), .ref (b + (1179 + 1)), .int 0, .ref (b + (1179 + 2)), .int 0, .long 0, .int 0, .int 0, .int 0, .int 0])))  : zM l D tA b zy_OB_pixel zb_OB_pixel 3 (some .int) 2 44 0 0 [.ref (b + 0), .int x, .int y] f n (zE (some (.int (-1))) f n) := by
  refine zM_of (own := "OrreryBox") (plainFor_of_name (by decide)) rfl (Nat.le_of_ble_eq_true rfl) (fun p e s m below meth c F hr hin hH => ?_)
  refine zr_aload_n F zd_OB_pixel_0 rfl ?_
  refine zr_iload_n F zd_OB_pixel_1 rfl ?_
  refine zr_iload_n F zd_OB_pixel_2 rfl ?_
  refine zr_callV1 F (c_OB_hasPixel l D tA b _ _ x y w h 0 11 0 (-1) h0 ) zd_OB_pixel_3 h0 rfl zs_OB_188 rfl zq_OB_hasPixel rfl rfl ⟨(Nat.le_of_ble_eq_true rfl), (Nat.le_of_ble_eq_true rfl)⟩ (Nat.le_of_ble_eq_true rfl) ⟨(Nat.le_of_ble_eq_true rfl), (Nat.le_of_ble_eq_true rfl)⟩ ?_
  refine zr_if_eq F 40 zd_OB_pixel_6 (by decide) (fun h1 => ?_) (fun h1 => ?_)
  ·
    refine zr_iconstv (v := (-1)) F zd_OB_pixel_40 (by decide) ?_
    exact zr_iret F hr zd_OB_pixel_41 (Nat.le_of_ble_eq_true rfl) (Nat.le_of_ble_eq_true rfl) ⟨rfl, rfl, rfl⟩
  ·
    refine zr_aload_n F zd_OB_pixel_9 rfl ?_
    refine zr_get F 0 8 zd_OB_pixel_10 h0 rfl (by decide) zw_496 rfl (by rfl) ?_
    refine zr_iload_n F zd_OB_pixel_13 rfl ?_
    refine zr_iload_n F zd_OB_pixel_14 rfl ?_
    refine zr_callV1 F (e_XPicture_shows l D tA b _ _ x y w h pt pa hp ) zd_OB_pixel_15 hp rfl zs_OB_192 rfl zq_XPicture_shows rfl rfl ⟨(Nat.le_of_ble_eq_true rfl), (Nat.le_of_ble_eq_true rfl)⟩ (Nat.le_of_ble_eq_true rfl) ⟨(Nat.le_of_ble_eq_true rfl), (Nat.le_of_ble_eq_true rfl)⟩ ?_
    refine zr_if_eq F 40 zd_OB_pixel_18 (by decide) (fun _ => ?_) (fun h => absurd h (by decide))
    refine zr_iconstv (v := (-1)) F zd_OB_pixel_40 (by decide) ?_
    exact zr_iret F hr zd_OB_pixel_41 (Nat.le_of_ble_eq_true rfl) (Nat.le_of_ble_eq_true rfl) ⟨rfl, rfl, rfl⟩
abbrev zb_OB_nearness : ByteArray := prog_1_method_18_code
def zy_OB_nearness : MethodName := ⟨"OrreryBox", "nearness", "(II)I"⟩
theorem zc_OB_nearness : Cond.code zy_OB_nearness zb_OB_nearness 3 (some .int) ∈ gw := gw_t 875 (by decide +kernel) rfl
theorem zq_OB_nearness : zy_OB_nearness.cls ≠ "java/lang/invoke/MethodHandle" ∧ zy_OB_nearness.cls ≠ "java/lang/invoke/VarHandle" ∧ (parseMethodDescriptor zy_OB_nearness.desc).map (fun d => d.parameters.length) = some 2 := by decide +kernel
theorem zd_OB_nearness_0 : decode zb_OB_nearness 0 = .ok (.aload_n 0, 1) := by decide +kernel
theorem zd_OB_nearness_1 : decode zb_OB_nearness 1 = .ok (.iload_n 1, 1) := by decide +kernel
theorem zd_OB_nearness_2 : decode zb_OB_nearness 2 = .ok (.iload_n 2, 1) := by decide +kernel
theorem zd_OB_nearness_3 : decode zb_OB_nearness 3 = .ok (.invokevirtual 188, 3) := by decide +kernel
theorem zd_OB_nearness_6 : decode zb_OB_nearness 6 = .ok (.ifCond .eq 34, 3) := by decide +kernel
theorem zd_OB_nearness_9 : decode zb_OB_nearness 9 = .ok (.aload_n 0, 1) := by decide +kernel
theorem zd_OB_nearness_10 : decode zb_OB_nearness 10 = .ok (.getfield 65, 3) := by decide +kernel
theorem zd_OB_nearness_13 : decode zb_OB_nearness 13 = .ok (.iload_n 1, 1) := by decide +kernel
theorem zd_OB_nearness_14 : decode zb_OB_nearness 14 = .ok (.iload_n 2, 1) := by decide +kernel
theorem zd_OB_nearness_15 : decode zb_OB_nearness 15 = .ok (.invokevirtual 192, 3) := by decide +kernel
theorem zd_OB_nearness_18 : decode zb_OB_nearness 18 = .ok (.ifCond .eq 22, 3) := by decide +kernel
theorem zd_OB_nearness_21 : decode zb_OB_nearness 21 = .ok (.aload_n 0, 1) := by decide +kernel
theorem zd_OB_nearness_22 : decode zb_OB_nearness 22 = .ok (.getfield 65, 3) := by decide +kernel
theorem zd_OB_nearness_25 : decode zb_OB_nearness 25 = .ok (.getfield 198, 3) := by decide +kernel
theorem zd_OB_nearness_28 : decode zb_OB_nearness 28 = .ok (.iload_n 2, 1) := by decide +kernel
theorem zd_OB_nearness_29 : decode zb_OB_nearness 29 = .ok (.aload_n 0, 1) := by decide +kernel
theorem zd_OB_nearness_30 : decode zb_OB_nearness 30 = .ok (.getfield 42, 3) := by decide +kernel
theorem zd_OB_nearness_33 : decode zb_OB_nearness 33 = .ok (.imul, 1) := by decide +kernel
theorem zd_OB_nearness_34 : decode zb_OB_nearness 34 = .ok (.iload_n 1, 1) := by decide +kernel
theorem zd_OB_nearness_35 : decode zb_OB_nearness 35 = .ok (.iadd, 1) := by decide +kernel
theorem zd_OB_nearness_36 : decode zb_OB_nearness 36 = .ok (.iaload, 1) := by decide +kernel
theorem zd_OB_nearness_37 : decode zb_OB_nearness 37 = .ok (.goto 4, 3) := by decide +kernel
theorem zd_OB_nearness_40 : decode zb_OB_nearness 40 = .ok (.iconst (-1), 1) := by decide +kernel
theorem zd_OB_nearness_41 : decode zb_OB_nearness 41 = .ok (.ireturn, 1) := by decide +kernel
set_option maxHeartbeats 4000000 in
set_option maxRecDepth 100000 in
theorem e_OB_nearness (l : Launch) (D : va_G) (tA : Nat → ClassId) (b : Nat) (f : zV) (n : Nat) (x : Int32) (y : Int32) (w : Int32) (h : Int32) (pt : Int32) (pa : Int32) (h0 : f 0 = some (.inr (0, [.int w, .int h, .ref (b + 1), .int 0, .ref (b + 2), .ref (b + 11), .ref (b + 3), .ref (b + 1121), .ref (b + 1178), .ref (b + 5), .int 0, .int (-1)]))) (hp : f 1178 = some (.inr (5, [.int pt, .ref (b + (1179 + 4)), .ref (b + (1179 + 5)), .null, .int w, .int h, .int pa, .int 0, .ref (b + 1179), .ref (b + (1179 + 1)), .int 0, .ref (b + (1179 + 2)), .int 0, .long 0, .int 0, .int 0, .int 0, .int 0])))  : zM l D tA b zy_OB_nearness zb_OB_nearness 3 (some .int) 2 44 0 0 [.ref (b + 0), .int x, .int y] f n (zE (some (.int (-1))) f n) := by
  refine zM_of (own := "OrreryBox") (plainFor_of_name (by decide)) rfl (Nat.le_of_ble_eq_true rfl) (fun p e s m below meth c F hr hin hH => ?_)
  refine zr_aload_n F zd_OB_nearness_0 rfl ?_
  refine zr_iload_n F zd_OB_nearness_1 rfl ?_
  refine zr_iload_n F zd_OB_nearness_2 rfl ?_
  refine zr_callV1 F (c_OB_hasPixel l D tA b _ _ x y w h 0 11 0 (-1) h0 ) zd_OB_nearness_3 h0 rfl zs_OB_188 rfl zq_OB_hasPixel rfl rfl ⟨(Nat.le_of_ble_eq_true rfl), (Nat.le_of_ble_eq_true rfl)⟩ (Nat.le_of_ble_eq_true rfl) ⟨(Nat.le_of_ble_eq_true rfl), (Nat.le_of_ble_eq_true rfl)⟩ ?_
  refine zr_if_eq F 40 zd_OB_nearness_6 (by decide) (fun h1 => ?_) (fun h1 => ?_)
  ·
    refine zr_iconstv (v := (-1)) F zd_OB_nearness_40 (by decide) ?_
    exact zr_iret F hr zd_OB_nearness_41 (Nat.le_of_ble_eq_true rfl) (Nat.le_of_ble_eq_true rfl) ⟨rfl, rfl, rfl⟩
  ·
    refine zr_aload_n F zd_OB_nearness_9 rfl ?_
    refine zr_get F 0 8 zd_OB_nearness_10 h0 rfl (by decide) zw_496 rfl (by rfl) ?_
    refine zr_iload_n F zd_OB_nearness_13 rfl ?_
    refine zr_iload_n F zd_OB_nearness_14 rfl ?_
    refine zr_callV1 F (e_XPicture_shows l D tA b _ _ x y w h pt pa hp ) zd_OB_nearness_15 hp rfl zs_OB_192 rfl zq_XPicture_shows rfl rfl ⟨(Nat.le_of_ble_eq_true rfl), (Nat.le_of_ble_eq_true rfl)⟩ (Nat.le_of_ble_eq_true rfl) ⟨(Nat.le_of_ble_eq_true rfl), (Nat.le_of_ble_eq_true rfl)⟩ ?_
    refine zr_if_eq F 40 zd_OB_nearness_18 (by decide) (fun _ => ?_) (fun h => absurd h (by decide))
    refine zr_iconstv (v := (-1)) F zd_OB_nearness_40 (by decide) ?_
    exact zr_iret F hr zd_OB_nearness_41 (Nat.le_of_ble_eq_true rfl) (Nat.le_of_ble_eq_true rfl) ⟨rfl, rfl, rfl⟩
abbrev zb_OB_file : ByteArray := prog_1_method_21_code
def zy_OB_file : MethodName := ⟨"OrreryBox", "file", "()I"⟩
theorem zc_OB_file : Cond.code zy_OB_file zb_OB_file 1 (some .int) ∈ gw := gw_t 899 (by decide +kernel) rfl
theorem zq_OB_file : zy_OB_file.cls ≠ "java/lang/invoke/MethodHandle" ∧ zy_OB_file.cls ≠ "java/lang/invoke/VarHandle" ∧ (parseMethodDescriptor zy_OB_file.desc).map (fun d => d.parameters.length) = some 0 := by decide +kernel
theorem zd_OB_file_0 : decode zb_OB_file 0 = .ok (.aload_n 0, 1) := by decide +kernel
theorem zd_OB_file_1 : decode zb_OB_file 1 = .ok (.getfield 65, 3) := by decide +kernel
theorem zd_OB_file_4 : decode zb_OB_file 4 = .ok (.invokevirtual 219, 3) := by decide +kernel
theorem zd_OB_file_7 : decode zb_OB_file 7 = .ok (.ifCond .ne 5, 3) := by decide +kernel
theorem zd_OB_file_10 : decode zb_OB_file 10 = .ok (.iconst (-1), 1) := by decide +kernel
theorem zd_OB_file_11 : decode zb_OB_file 11 = .ok (.ireturn, 1) := by decide +kernel
theorem zd_OB_file_12 : decode zb_OB_file 12 = .ok (.aload_n 0, 1) := by decide +kernel
theorem zd_OB_file_13 : decode zb_OB_file 13 = .ok (.getfield 30, 3) := by decide +kernel
theorem zd_OB_file_16 : decode zb_OB_file 16 = .ok (.aload_n 0, 1) := by decide +kernel
theorem zd_OB_file_17 : decode zb_OB_file 17 = .ok (.getfield 65, 3) := by decide +kernel
theorem zd_OB_file_20 : decode zb_OB_file 20 = .ok (.getfield 195, 3) := by decide +kernel
theorem zd_OB_file_23 : decode zb_OB_file 23 = .ok (.aload_n 0, 1) := by decide +kernel
theorem zd_OB_file_24 : decode zb_OB_file 24 = .ok (.getfield 42, 3) := by decide +kernel
theorem zd_OB_file_27 : decode zb_OB_file 27 = .ok (.aload_n 0, 1) := by decide +kernel
theorem zd_OB_file_28 : decode zb_OB_file 28 = .ok (.getfield 45, 3) := by decide +kernel
theorem zd_OB_file_31 : decode zb_OB_file 31 = .ok (.invokevirtual 222, 3) := by decide +kernel
theorem zd_OB_file_34 : decode zb_OB_file 34 = .ok (.aload_n 0, 1) := by decide +kernel
theorem zd_OB_file_35 : decode zb_OB_file 35 = .ok (.getfield 30, 3) := by decide +kernel
theorem zd_OB_file_38 : decode zb_OB_file 38 = .ok (.getfield 226, 3) := by decide +kernel
theorem zd_OB_file_41 : decode zb_OB_file 41 = .ok (.ireturn, 1) := by decide +kernel
theorem zw_900 : (Jvm.Cond.methodLink "OrreryBox" (219 : Nat) ({ cls := "OrreryBox$Picture", name := "isWhole", desc := "()Z" } : Jvm.MethodName)) ∈ gw := gw_t 900 (by decide +kernel) rfl
theorem zw_901 : (Jvm.Cond.instanceMethod ({ cls := "OrreryBox$Picture", name := "isWhole", desc := "()Z" } : Jvm.MethodName)) ∈ gw := gw_t 901 (by decide +kernel) rfl
theorem zw_902 : (Jvm.Cond.selects "OrreryBox$Picture" ({ cls := "OrreryBox$Picture", name := "isWhole", desc := "()Z" } : Jvm.MethodName) ({ cls := "OrreryBox$Picture", name := "isWhole", desc := "()Z" } : Jvm.MethodName)) ∈ gw := gw_t 902 (by decide +kernel) rfl
theorem zs_OB_219 : zwV "OrreryBox" 219 "OrreryBox$Picture" zy_XPicture_isWhole zb_XPicture_isWhole 1 (some .boolean) := ⟨zw_900, zw_901, zw_902, zw_12, zc_XPicture_isWhole⟩
set_option maxHeartbeats 4000000 in
set_option maxRecDepth 100000 in
theorem e_OB_file (l : Launch) (D : va_G) (tA : Nat → ClassId) (b : Nat) (f : zV) (n : Nat) (w : Int32) (h : Int32) (pt : Int32) (pa : Int32) (h0 : f 0 = some (.inr (0, [.int w, .int h, .ref (b + 1), .int 0, .ref (b + 2), .ref (b + 11), .ref (b + 3), .ref (b + 1121), .ref (b + 1178), .ref (b + 5), .int 0, .int (-1)]))) (hp : f 1178 = some (.inr (5, [.int pt, .ref (b + (1179 + 4)), .ref (b + (1179 + 5)), .null, .int w, .int h, .int pa, .int 0, .ref (b + 1179), .ref (b + (1179 + 1)), .int 0, .ref (b + (1179 + 2)), .int 0, .long 0, .int 0, .int 0, .int 0, .int 0])))  : zM l D tA b zy_OB_file zb_OB_file 1 (some .int) 1 20 0 0 [.ref (b + 0)] f n (zE (some (.int (-1))) f n) := by
  refine zM_of (own := "OrreryBox") (plainFor_of_name (by decide)) rfl (Nat.le_of_ble_eq_true rfl) (fun p e s m below meth c F hr hin hH => ?_)
  refine zr_aload_n F zd_OB_file_0 rfl ?_
  refine zr_get F 0 8 zd_OB_file_1 h0 rfl (by decide) zw_496 rfl (by rfl) ?_
  refine zr_callV1 F (e_XPicture_isWhole l D tA b _ _ w h pt pa hp ) zd_OB_file_4 hp rfl zs_OB_219 rfl zq_XPicture_isWhole rfl rfl ⟨(Nat.le_of_ble_eq_true rfl), (Nat.le_of_ble_eq_true rfl)⟩ (Nat.le_of_ble_eq_true rfl) ⟨(Nat.le_of_ble_eq_true rfl), (Nat.le_of_ble_eq_true rfl)⟩ ?_
  refine zr_if_ne F 12 zd_OB_file_7 (by decide) (fun h => absurd h (by decide)) (fun _ => ?_)
  refine zr_iconstv (v := (-1)) F zd_OB_file_10 (by decide) ?_
  exact zr_iret F hr zd_OB_file_11 (Nat.le_of_ble_eq_true rfl) (Nat.le_of_ble_eq_true rfl) ⟨rfl, rfl, rfl⟩
abbrev zb_OB_pick : ByteArray := prog_1_method_19_code
def zy_OB_pick : MethodName := ⟨"OrreryBox", "pick", "(II)I"⟩
theorem zc_OB_pick : Cond.code zy_OB_pick zb_OB_pick 8 (some .int) ∈ gw := gw_t 879 (by decide +kernel) rfl
theorem zq_OB_pick : zy_OB_pick.cls ≠ "java/lang/invoke/MethodHandle" ∧ zy_OB_pick.cls ≠ "java/lang/invoke/VarHandle" ∧ (parseMethodDescriptor zy_OB_pick.desc).map (fun d => d.parameters.length) = some 2 := by decide +kernel
theorem zd_OB_pick_0 : decode zb_OB_pick 0 = .ok (.aload_n 0, 1) := by decide +kernel
theorem zd_OB_pick_1 : decode zb_OB_pick 1 = .ok (.iconst (-1), 1) := by decide +kernel
theorem zd_OB_pick_2 : decode zb_OB_pick 2 = .ok (.putfield 34, 3) := by decide +kernel
theorem zd_OB_pick_5 : decode zb_OB_pick 5 = .ok (.aload_n 0, 1) := by decide +kernel
theorem zd_OB_pick_6 : decode zb_OB_pick 6 = .ok (.iload_n 1, 1) := by decide +kernel
theorem zd_OB_pick_7 : decode zb_OB_pick 7 = .ok (.iload_n 2, 1) := by decide +kernel
theorem zd_OB_pick_8 : decode zb_OB_pick 8 = .ok (.invokevirtual 188, 3) := by decide +kernel
theorem zd_OB_pick_11 : decode zb_OB_pick 11 = .ok (.ifCond .ne 5, 3) := by decide +kernel
theorem zd_OB_pick_14 : decode zb_OB_pick 14 = .ok (.iconst (-1), 1) := by decide +kernel
theorem zd_OB_pick_15 : decode zb_OB_pick 15 = .ok (.ireturn, 1) := by decide +kernel
theorem zd_OB_pick_16 : decode zb_OB_pick 16 = .ok (.aload_n 0, 1) := by decide +kernel
theorem zd_OB_pick_17 : decode zb_OB_pick 17 = .ok (.getfield 49, 3) := by decide +kernel
theorem zd_OB_pick_20 : decode zb_OB_pick 20 = .ok (.invokevirtual 148, 3) := by decide +kernel
theorem zd_OB_pick_23 : decode zb_OB_pick 23 = .ok (.aload_n 0, 1) := by decide +kernel
theorem zd_OB_pick_24 : decode zb_OB_pick 24 = .ok (.getfield 58, 3) := by decide +kernel
theorem zd_OB_pick_27 : decode zb_OB_pick 27 = .ok (.aload_n 0, 1) := by decide +kernel
theorem zd_OB_pick_28 : decode zb_OB_pick 28 = .ok (.getfield 49, 3) := by decide +kernel
theorem zd_OB_pick_31 : decode zb_OB_pick 31 = .ok (.invokevirtual 154, 3) := by decide +kernel
theorem zd_OB_pick_34 : decode zb_OB_pick 34 = .ok (.aload_n 0, 1) := by decide +kernel
theorem zd_OB_pick_35 : decode zb_OB_pick 35 = .ok (.getfield 58, 3) := by decide +kernel
theorem zd_OB_pick_38 : decode zb_OB_pick 38 = .ok (.getfield 167, 3) := by decide +kernel
theorem zd_OB_pick_41 : decode zb_OB_pick 41 = .ok (.astore_n 3, 1) := by decide +kernel
theorem zd_OB_pick_42 : decode zb_OB_pick 42 = .ok (.iconst (-1), 1) := by decide +kernel
theorem zd_OB_pick_43 : decode zb_OB_pick 43 = .ok (.istore 4, 2) := by decide +kernel
theorem zd_OB_pick_45 : decode zb_OB_pick 45 = .ok (.lconst 0, 1) := by decide +kernel
theorem zd_OB_pick_46 : decode zb_OB_pick 46 = .ok (.lstore 5, 2) := by decide +kernel
theorem zd_OB_pick_48 : decode zb_OB_pick 48 = .ok (.iconst 0, 1) := by decide +kernel
theorem zd_OB_pick_49 : decode zb_OB_pick 49 = .ok (.istore 7, 2) := by decide +kernel
theorem zd_OB_pick_51 : decode zb_OB_pick 51 = .ok (.iload 7, 2) := by decide +kernel
theorem zd_OB_pick_53 : decode zb_OB_pick 53 = .ok (.ldc 162, 2) := by decide +kernel
theorem zd_OB_pick_55 : decode zb_OB_pick 55 = .ok (.if_icmp .ge 73, 3) := by decide +kernel
theorem zd_OB_pick_58 : decode zb_OB_pick 58 = .ok (.aload_n 0, 1) := by decide +kernel
theorem zd_OB_pick_59 : decode zb_OB_pick 59 = .ok (.getfield 58, 3) := by decide +kernel
theorem zd_OB_pick_62 : decode zb_OB_pick 62 = .ok (.invokevirtual 163, 3) := by decide +kernel
theorem zd_OB_pick_65 : decode zb_OB_pick 65 = .ok (.ifCond .eq 63, 3) := by decide +kernel
theorem zd_OB_pick_68 : decode zb_OB_pick 68 = .ok (.aload_n 3, 1) := by decide +kernel
theorem zd_OB_pick_69 : decode zb_OB_pick 69 = .ok (.iload_n 1, 1) := by decide +kernel
theorem zd_OB_pick_70 : decode zb_OB_pick 70 = .ok (.iload_n 2, 1) := by decide +kernel
theorem zd_OB_pick_71 : decode zb_OB_pick 71 = .ok (.invokevirtual 201, 3) := by decide +kernel
theorem zd_OB_pick_74 : decode zb_OB_pick 74 = .ok (.ifCond .eq 48, 3) := by decide +kernel
theorem zd_OB_pick_77 : decode zb_OB_pick 77 = .ok (.aload_n 3, 1) := by decide +kernel
theorem zd_OB_pick_78 : decode zb_OB_pick 78 = .ok (.iload_n 1, 1) := by decide +kernel
theorem zd_OB_pick_79 : decode zb_OB_pick 79 = .ok (.iload_n 2, 1) := by decide +kernel
theorem zd_OB_pick_80 : decode zb_OB_pick 80 = .ok (.invokevirtual 206, 3) := by decide +kernel
theorem zd_OB_pick_83 : decode zb_OB_pick 83 = .ok (.ifCond .eq 39, 3) := by decide +kernel
theorem zd_OB_pick_86 : decode zb_OB_pick 86 = .ok (.aload_n 3, 1) := by decide +kernel
theorem zd_OB_pick_87 : decode zb_OB_pick 87 = .ok (.invokevirtual 209, 3) := by decide +kernel
theorem zd_OB_pick_90 : decode zb_OB_pick 90 = .ok (.lload 5, 2) := by decide +kernel
theorem zd_OB_pick_92 : decode zb_OB_pick 92 = .ok (.lcmp, 1) := by decide +kernel
theorem zd_OB_pick_93 : decode zb_OB_pick 93 = .ok (.ifCond .le 29, 3) := by decide +kernel
theorem zd_OB_pick_96 : decode zb_OB_pick 96 = .ok (.aload_n 3, 1) := by decide +kernel
theorem zd_OB_pick_97 : decode zb_OB_pick 97 = .ok (.invokevirtual 209, 3) := by decide +kernel
theorem zd_OB_pick_100 : decode zb_OB_pick 100 = .ok (.lstore 5, 2) := by decide +kernel
theorem zd_OB_pick_102 : decode zb_OB_pick 102 = .ok (.aload_n 0, 1) := by decide +kernel
theorem zd_OB_pick_103 : decode zb_OB_pick 103 = .ok (.getfield 58, 3) := by decide +kernel
theorem zd_OB_pick_106 : decode zb_OB_pick 106 = .ok (.invokevirtual 213, 3) := by decide +kernel
theorem zd_OB_pick_109 : decode zb_OB_pick 109 = .ok (.istore 4, 2) := by decide +kernel
theorem zd_OB_pick_111 : decode zb_OB_pick 111 = .ok (.aload_n 0, 1) := by decide +kernel
theorem zd_OB_pick_112 : decode zb_OB_pick 112 = .ok (.aload_n 0, 1) := by decide +kernel
theorem zd_OB_pick_113 : decode zb_OB_pick 113 = .ok (.getfield 58, 3) := by decide +kernel
theorem zd_OB_pick_116 : decode zb_OB_pick 116 = .ok (.getfield 216, 3) := by decide +kernel
theorem zd_OB_pick_119 : decode zb_OB_pick 119 = .ok (.putfield 34, 3) := by decide +kernel
theorem zd_OB_pick_122 : decode zb_OB_pick 122 = .ok (.iinc 7 1, 3) := by decide +kernel
theorem zd_OB_pick_125 : decode zb_OB_pick 125 = .ok (.goto (-74), 3) := by decide +kernel
theorem zd_OB_pick_128 : decode zb_OB_pick 128 = .ok (.iload 4, 2) := by decide +kernel
theorem zd_OB_pick_130 : decode zb_OB_pick 130 = .ok (.ireturn, 1) := by decide +kernel
theorem zw_372 : (Jvm.Cond.fieldLink "OrreryBox" (167 : Nat) "OrreryBox$Sight" "piece" "LOrreryBox$Piece;") ∈ gw := gw_t 372 (by decide +kernel) rfl
def sw_e_OB_pick (tA : Nat → ClassId) (b : Nat) (f : zV) (x : Int32) (y : Int32) (w : Int32) (h : Int32) (gc : Nat → Int32) (gv : Nat → Int32) (g : Nat → Int32) : zV := (if (sp_OB_hasPixel x y w h 0 11 0 (-1)) = 0 then (zu (f) 0 (.inr (0, [.int w, .int h, .ref (b + 1), .int 0, .ref (b + 2), .ref (b + 11), .ref (b + 3), .ref (b + 1121), .ref (b + 1178), .ref (b + 5), .int 0, .int (-1)]))) else (zu (zu (zu (zu (f) 0 (.inr (0, [.int w, .int h, .ref (b + 1), .int 0, .ref (b + 2), .ref (b + 11), .ref (b + 3), .ref (b + 1121), .ref (b + 1178), .ref (b + 5), .int 0, .int (-1)]))) 11 (.inr (8, [.ref (b + 12), .ref (b + (12 + 1)), .ref (b + (12 + 2)), .ref (b + (12 + 19)), .ref (b + (12 + 20)), .ref (b + (12 + 21)), .ref (b + (12 + 22)), .ref (b + (12 + 23)), .int 0, .int 1, .ref (b + (12 + 24))]))) 1121 (.inr (9, [.ref (b + 1122), .int (-1), .ref (b + (1122 + 2)), .int 0, .int 1, .int w, .int h, .ref (b + 11), .ref (b + (1122 + 3)), .ref (b + (1122 + 4)), .ref (b + (1122 + 53)), .int 0, .int 0, .ref (b + (1122 + 54)), .ref (b + (1122 + 55))]))) ((1122 + 3)) (.inl (tA 0, 12, .inl ((sg_XSight_placeView gv g))))))
theorem swn_e_OB_pick {tA : Nat → ClassId} {b : Nat} {f : zV} {x : Int32} {y : Int32} {w : Int32} {h : Int32} {gc : Nat → Int32} {gv : Nat → Int32} {g : Nat → Int32} {ka : Nat} (h0 : ka ≠ 0) (h1 : ka ≠ 11) (h2 : ka ≠ 1121) (h3 : ka ≠ (1122 + 3)) : sw_e_OB_pick tA b f x y w h gc gv g ka = f ka := by
  unfold sw_e_OB_pick
  repeat' split
  all_goals first | rfl | simp only [zu_n _ h0, zu_n _ h1, zu_n _ h2, zu_n _ h3]
set_option maxHeartbeats 4000000 in
set_option maxRecDepth 100000 in
theorem e_OB_pick (l : Launch) (D : va_G) (tA : Nat → ClassId) (b : Nat) (f : zV) (n : Nat) (x : Int32) (y : Int32) (w : Int32) (h : Int32) (gc : Nat → Int32) (gv : Nat → Int32) (g : Nat → Int32) (h0 : f 0 = some (.inr (0, [.int w, .int h, .ref (b + 1), .int 0, .ref (b + 2), .ref (b + 11), .ref (b + 3), .ref (b + 1121), .ref (b + 1178), .ref (b + 5), .int 0, .int (-1)]))) (hs : f 11 = some (.inr (8, zsO b 12 0 0))) (hc : f 12 = some (.inl (tA 0, 5, .inl (gc)))) (hw : f ((12 + 22)) = some (.inl (tA 0, 7, .inl (gv)))) (hg : f 1121 = some (.inr (9, [.ref (b + 1122), .int 0, .ref (b + (1122 + 2)), .int 0, .int 0, .int w, .int h, .null, .ref (b + (1122 + 3)), .ref (b + (1122 + 4)), .ref (b + (1122 + 53)), .int 0, .int 0, .ref (b + (1122 + 54)), .ref (b + (1122 + 55))]))) (hv : f ((1122 + 3)) = some (.inl (tA 0, 12, .inl (g)))) (k3 : gc (3 : Int32).toNatClampNeg = 0) : zM l D tA b zy_OB_pick zb_OB_pick 8 (some .int) 6 147 0 0 [.ref (b + 0), .int x, .int y] f n (zE (some (.int (-1))) (sw_e_OB_pick tA b f x y w h gc gv g) n) := by
  refine zM_of (own := "OrreryBox") (plainFor_of_name (by decide)) rfl (Nat.le_of_ble_eq_true rfl) (fun p e s m below meth c F hr hin hH => ?_)
  refine zr_aload_n F zd_OB_pick_0 rfl ?_
  refine zr_iconstv (v := (-1)) F zd_OB_pick_1 (by decide) ?_
  refine zr_put F 0 11 zd_OB_pick_2 h0 rfl (by decide) zw_499 rfl rfl rfl rfl (by exact (Nat.le_of_ble_eq_true rfl)) ?_
  refine zr_norm (zu (f) 0 (.inr (0, [.int w, .int h, .ref (b + 1), .int 0, .ref (b + 2), .ref (b + 11), .ref (b + 3), .ref (b + 1121), .ref (b + 1178), .ref (b + 5), .int 0, .int (-1)]))) _ (rfl) rfl ?_
  refine zr_aload_n F zd_OB_pick_5 rfl ?_
  refine zr_iload_n F zd_OB_pick_6 rfl ?_
  refine zr_iload_n F zd_OB_pick_7 rfl ?_
  refine zr_callV1 F (c_OB_hasPixel l D tA b _ _ x y w h 0 11 0 (-1) (zu_s _ _ _) ) zd_OB_pick_8 (zu_s _ _ _) rfl zs_OB_188 rfl zq_OB_hasPixel rfl rfl ⟨(Nat.le_of_ble_eq_true rfl), (Nat.le_of_ble_eq_true rfl)⟩ (Nat.le_of_ble_eq_true rfl) ⟨(Nat.le_of_ble_eq_true rfl), (Nat.le_of_ble_eq_true rfl)⟩ ?_
  refine zr_if_ne F 16 zd_OB_pick_11 (by decide) (fun h1 => ?_) (fun h1 => ?_)
  ·
    refine zr_aload_n F zd_OB_pick_16 rfl ?_
    refine zr_get F 0 5 zd_OB_pick_17 (zu_s _ _ _) rfl (by decide) zw_493 rfl (by rfl) ?_
    refine zr_callV0 F (e_XScene_placeNodes l D tA b _ _ gc ((zu_n _ (by omega)).trans hs) ((zu_n _ (by omega)).trans hc) k3) zd_OB_pick_20 ((zu_n _ (by omega)).trans hs) rfl zs_OB_148 rfl zq_XScene_placeNodes rfl rfl ⟨(Nat.le_of_ble_eq_true rfl), (Nat.le_of_ble_eq_true rfl)⟩ (Nat.le_of_ble_eq_true rfl) ⟨(Nat.le_of_ble_eq_true rfl), (Nat.le_of_ble_eq_true rfl)⟩ ?_
    refine zr_norm (zu (zu (f) 0 (.inr (0, [.int w, .int h, .ref (b + 1), .int 0, .ref (b + 2), .ref (b + 11), .ref (b + 3), .ref (b + 1121), .ref (b + 1178), .ref (b + 5), .int 0, .int (-1)]))) 11 (.inr (8, [.ref (b + 12), .ref (b + (12 + 1)), .ref (b + (12 + 2)), .ref (b + (12 + 19)), .ref (b + (12 + 20)), .ref (b + (12 + 21)), .ref (b + (12 + 22)), .ref (b + (12 + 23)), .int 0, .int 1, .ref (b + (12 + 24))]))) _ (rfl) rfl ?_
    refine zr_aload_n F zd_OB_pick_23 rfl ?_
    refine zr_get F 0 7 zd_OB_pick_24 ((zu_n _ (by omega)).trans (zu_s _ _ _)) rfl (by decide) zw_495 rfl (by rfl) ?_
    refine zr_aload_n F zd_OB_pick_27 rfl ?_
    refine zr_get F 0 5 zd_OB_pick_28 ((zu_n _ (by omega)).trans (zu_s _ _ _)) rfl (by decide) zw_493 rfl (by rfl) ?_
    refine zr_callV0 F (e_XSight_stand l D tA b _ _ 0 (1122 + 2) 0 0 w h (.null) 0 0 (1122 + 55) 0 1 gc gv g ((zu_n _ (by omega)).trans ((zu_n _ (by omega)).trans hg)) ((zu_n _ (by omega)).trans ((zu_n _ (by omega)).trans hv)) (zu_s _ _ _) ((zu_n _ (by omega)).trans ((zu_n _ (by omega)).trans hc)) ((zu_n _ (by omega)).trans ((zu_n _ (by omega)).trans hw)) k3) zd_OB_pick_31 ((zu_n _ (by omega)).trans ((zu_n _ (by omega)).trans hg)) rfl zs_OB_154 rfl zq_XSight_stand rfl rfl ⟨(Nat.le_of_ble_eq_true rfl), (Nat.le_of_ble_eq_true rfl)⟩ (Nat.le_of_ble_eq_true rfl) ⟨(Nat.le_of_ble_eq_true rfl), (Nat.le_of_ble_eq_true rfl)⟩ ?_
    refine zr_norm (zu (zu (zu (zu (f) 0 (.inr (0, [.int w, .int h, .ref (b + 1), .int 0, .ref (b + 2), .ref (b + 11), .ref (b + 3), .ref (b + 1121), .ref (b + 1178), .ref (b + 5), .int 0, .int (-1)]))) 11 (.inr (8, [.ref (b + 12), .ref (b + (12 + 1)), .ref (b + (12 + 2)), .ref (b + (12 + 19)), .ref (b + (12 + 20)), .ref (b + (12 + 21)), .ref (b + (12 + 22)), .ref (b + (12 + 23)), .int 0, .int 1, .ref (b + (12 + 24))]))) 1121 (.inr (9, [.ref (b + 1122), .int (-1), .ref (b + (1122 + 2)), .int 0, .int 0, .int w, .int h, .ref (b + 11), .ref (b + (1122 + 3)), .ref (b + (1122 + 4)), .ref (b + (1122 + 53)), .int 0, .int 0, .ref (b + (1122 + 54)), .ref (b + (1122 + 55))]))) ((1122 + 3)) (.inl (tA 0, 12, .inl ((sg_XSight_placeView gv g))))) _ (rfl) rfl ?_
    refine zr_aload_n F zd_OB_pick_34 rfl ?_
    refine zr_get F 0 7 zd_OB_pick_35 ((zu_n _ (by omega)).trans ((zu_n _ (by omega)).trans ((zu_n _ (by omega)).trans (zu_s _ _ _)))) rfl (by decide) zw_495 rfl (by rfl) ?_
    refine zr_get F 9 0 zd_OB_pick_38 ((zu_n _ (by omega)).trans (zu_s _ _ _)) rfl (by decide) zw_372 rfl (by rfl) ?_
    refine zr_astore_n F zd_OB_pick_41 (by decide) ?_
    refine zr_iconstv (v := (-1)) F zd_OB_pick_42 (by decide) ?_
    refine zr_istore F zd_OB_pick_43 (by decide) ?_
    refine zr_lconstv (v := 0) F zd_OB_pick_45 (by decide) ?_
    refine zr_lstore F zd_OB_pick_46 (by decide) ?_
    refine zr_iconstv (v := 0) F zd_OB_pick_48 (by decide) ?_
    refine zr_istore F zd_OB_pick_49 (by decide) ?_
    refine zr_iload F zd_OB_pick_51 rfl ?_
    refine zr_ldc F zd_OB_pick_53 zw_696 ?_
    refine zr_icmp_ge F 128 zd_OB_pick_55 (by decide) (fun h => absurd h (by decide)) (fun _ => ?_)
    refine zr_aload_n F zd_OB_pick_58 rfl ?_
    refine zr_get F 0 7 zd_OB_pick_59 ((zu_n _ (by omega)).trans ((zu_n _ (by omega)).trans ((zu_n _ (by omega)).trans (zu_s _ _ _)))) rfl (by decide) zw_495 rfl (by rfl) ?_
    refine zr_callV1 F (e_XSight_nextPiece l D tA b _ _ (-1) (1122 + 2) w h (.ref (b + 11)) (1122 + 55) ((zu_n _ (by omega)).trans (zu_s _ _ _)) ) zd_OB_pick_62 ((zu_n _ (by omega)).trans (zu_s _ _ _)) rfl zs_OB_163 rfl zq_XSight_nextPiece rfl rfl ⟨(Nat.le_of_ble_eq_true rfl), (Nat.le_of_ble_eq_true rfl)⟩ (Nat.le_of_ble_eq_true rfl) ⟨(Nat.le_of_ble_eq_true rfl), (Nat.le_of_ble_eq_true rfl)⟩ ?_
    refine zr_norm (zu (zu (zu (zu (f) 0 (.inr (0, [.int w, .int h, .ref (b + 1), .int 0, .ref (b + 2), .ref (b + 11), .ref (b + 3), .ref (b + 1121), .ref (b + 1178), .ref (b + 5), .int 0, .int (-1)]))) 11 (.inr (8, [.ref (b + 12), .ref (b + (12 + 1)), .ref (b + (12 + 2)), .ref (b + (12 + 19)), .ref (b + (12 + 20)), .ref (b + (12 + 21)), .ref (b + (12 + 22)), .ref (b + (12 + 23)), .int 0, .int 1, .ref (b + (12 + 24))]))) 1121 (.inr (9, [.ref (b + 1122), .int (-1), .ref (b + (1122 + 2)), .int 0, .int 1, .int w, .int h, .ref (b + 11), .ref (b + (1122 + 3)), .ref (b + (1122 + 4)), .ref (b + (1122 + 53)), .int 0, .int 0, .ref (b + (1122 + 54)), .ref (b + (1122 + 55))]))) ((1122 + 3)) (.inl (tA 0, 12, .inl ((sg_XSight_placeView gv g))))) _ (zu_mid (by omega) _ _ _) rfl ?_
    refine zr_if_eq F 128 zd_OB_pick_65 (by decide) (fun _ => ?_) (fun h => absurd h (by decide))
    refine zr_iload F zd_OB_pick_128 rfl ?_
    exact zr_iret F hr zd_OB_pick_130 (Nat.le_of_ble_eq_true rfl) (Nat.le_of_ble_eq_true rfl) ⟨rfl, by rw [sw_e_OB_pick, if_neg h1], rfl⟩
  ·
    refine zr_iconstv (v := (-1)) F zd_OB_pick_14 (by decide) ?_
    exact zr_iret F hr zd_OB_pick_15 (Nat.le_of_ble_eq_true rfl) (Nat.le_of_ble_eq_true rfl) ⟨rfl, by rw [sw_e_OB_pick, if_pos h1], rfl⟩
