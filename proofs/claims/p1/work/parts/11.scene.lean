abbrev zb_XPicture_init : ByteArray := prog_6_method_1_code
def zy_XPicture_init : MethodName := ⟨"OrreryBox$Picture", "<init>", "(II)V"⟩
theorem zc_XPicture_init : Cond.code zy_XPicture_init zb_XPicture_init 3 none ∈ gw := gw_t 423 (by decide +kernel) rfl
theorem zq_XPicture_init : zy_XPicture_init.cls ≠ "java/lang/invoke/MethodHandle" ∧ zy_XPicture_init.cls ≠ "java/lang/invoke/VarHandle" ∧ (parseMethodDescriptor zy_XPicture_init.desc).map (fun d => d.parameters.length) = some 2 := by decide +kernel
theorem zd_XPicture_init_0 : decode zb_XPicture_init 0 = .ok (.aload_n 0, 1) := by decide +kernel
theorem zd_XPicture_init_1 : decode zb_XPicture_init 1 = .ok (.invokespecial 3, 3) := by decide +kernel
theorem zd_XPicture_init_4 : decode zb_XPicture_init 4 = .ok (.aload_n 0, 1) := by decide +kernel
theorem zd_XPicture_init_5 : decode zb_XPicture_init 5 = .ok (.ldc 9, 2) := by decide +kernel
theorem zd_XPicture_init_7 : decode zb_XPicture_init 7 = .ok (.newarray .int, 2) := by decide +kernel
theorem zd_XPicture_init_9 : decode zb_XPicture_init 9 = .ok (.putfield 10, 3) := by decide +kernel
theorem zd_XPicture_init_12 : decode zb_XPicture_init 12 = .ok (.aload_n 0, 1) := by decide +kernel
theorem zd_XPicture_init_13 : decode zb_XPicture_init 13 = .ok (.ldc 16, 2) := by decide +kernel
theorem zd_XPicture_init_15 : decode zb_XPicture_init 15 = .ok (.newarray .byte, 2) := by decide +kernel
theorem zd_XPicture_init_17 : decode zb_XPicture_init 17 = .ok (.putfield 17, 3) := by decide +kernel
theorem zd_XPicture_init_20 : decode zb_XPicture_init 20 = .ok (.aload_n 0, 1) := by decide +kernel
theorem zd_XPicture_init_21 : decode zb_XPicture_init 21 = .ok (.new 21, 3) := by decide +kernel
theorem zd_XPicture_init_24 : decode zb_XPicture_init 24 = .ok (.dup, 1) := by decide +kernel
theorem zd_XPicture_init_25 : decode zb_XPicture_init 25 = .ok (.invokespecial 23, 3) := by decide +kernel
theorem zd_XPicture_init_28 : decode zb_XPicture_init 28 = .ok (.putfield 24, 3) := by decide +kernel
theorem zd_XPicture_init_31 : decode zb_XPicture_init 31 = .ok (.aload_n 0, 1) := by decide +kernel
theorem zd_XPicture_init_32 : decode zb_XPicture_init 32 = .ok (.iload_n 1, 1) := by decide +kernel
theorem zd_XPicture_init_33 : decode zb_XPicture_init 33 = .ok (.putfield 28, 3) := by decide +kernel
theorem zd_XPicture_init_36 : decode zb_XPicture_init 36 = .ok (.aload_n 0, 1) := by decide +kernel
theorem zd_XPicture_init_37 : decode zb_XPicture_init 37 = .ok (.iload_n 2, 1) := by decide +kernel
theorem zd_XPicture_init_38 : decode zb_XPicture_init 38 = .ok (.putfield 32, 3) := by decide +kernel
theorem zd_XPicture_init_41 : decode zb_XPicture_init 41 = .ok (.aload_n 0, 1) := by decide +kernel
theorem zd_XPicture_init_42 : decode zb_XPicture_init 42 = .ok (.iload_n 1, 1) := by decide +kernel
theorem zd_XPicture_init_43 : decode zb_XPicture_init 43 = .ok (.bipush 7, 2) := by decide +kernel
theorem zd_XPicture_init_45 : decode zb_XPicture_init 45 = .ok (.iadd, 1) := by decide +kernel
theorem zd_XPicture_init_46 : decode zb_XPicture_init 46 = .ok (.bipush 8, 2) := by decide +kernel
theorem zd_XPicture_init_48 : decode zb_XPicture_init 48 = .ok (.idiv, 1) := by decide +kernel
theorem zd_XPicture_init_49 : decode zb_XPicture_init 49 = .ok (.putfield 35, 3) := by decide +kernel
theorem zd_XPicture_init_52 : decode zb_XPicture_init 52 = .ok (.aload_n 0, 1) := by decide +kernel
theorem zd_XPicture_init_53 : decode zb_XPicture_init 53 = .ok (.aload_n 0, 1) := by decide +kernel
theorem zd_XPicture_init_54 : decode zb_XPicture_init 54 = .ok (.getfield 35, 3) := by decide +kernel
theorem zd_XPicture_init_57 : decode zb_XPicture_init 57 = .ok (.iload_n 2, 1) := by decide +kernel
theorem zd_XPicture_init_58 : decode zb_XPicture_init 58 = .ok (.bipush 7, 2) := by decide +kernel
theorem zd_XPicture_init_60 : decode zb_XPicture_init 60 = .ok (.iadd, 1) := by decide +kernel
theorem zd_XPicture_init_61 : decode zb_XPicture_init 61 = .ok (.bipush 8, 2) := by decide +kernel
theorem zd_XPicture_init_63 : decode zb_XPicture_init 63 = .ok (.idiv, 1) := by decide +kernel
theorem zd_XPicture_init_64 : decode zb_XPicture_init 64 = .ok (.imul, 1) := by decide +kernel
theorem zd_XPicture_init_65 : decode zb_XPicture_init 65 = .ok (.putfield 38, 3) := by decide +kernel
theorem zd_XPicture_init_68 : decode zb_XPicture_init 68 = .ok (.aload_n 0, 1) := by decide +kernel
theorem zd_XPicture_init_69 : decode zb_XPicture_init 69 = .ok (.iload_n 1, 1) := by decide +kernel
theorem zd_XPicture_init_70 : decode zb_XPicture_init 70 = .ok (.iload_n 2, 1) := by decide +kernel
theorem zd_XPicture_init_71 : decode zb_XPicture_init 71 = .ok (.imul, 1) := by decide +kernel
theorem zd_XPicture_init_72 : decode zb_XPicture_init 72 = .ok (.newarray .int, 2) := by decide +kernel
theorem zd_XPicture_init_74 : decode zb_XPicture_init 74 = .ok (.putfield 41, 3) := by decide +kernel
theorem zd_XPicture_init_77 : decode zb_XPicture_init 77 = .ok (.aload_n 0, 1) := by decide +kernel
theorem zd_XPicture_init_78 : decode zb_XPicture_init 78 = .ok (.iload_n 1, 1) := by decide +kernel
theorem zd_XPicture_init_79 : decode zb_XPicture_init 79 = .ok (.iload_n 2, 1) := by decide +kernel
theorem zd_XPicture_init_80 : decode zb_XPicture_init 80 = .ok (.imul, 1) := by decide +kernel
theorem zd_XPicture_init_81 : decode zb_XPicture_init 81 = .ok (.newarray .int, 2) := by decide +kernel
theorem zd_XPicture_init_83 : decode zb_XPicture_init 83 = .ok (.putfield 44, 3) := by decide +kernel
theorem zd_XPicture_init_86 : decode zb_XPicture_init 86 = .ok (.return_, 1) := by decide +kernel
theorem zdef_XPicture : ∀ j, j < 18 → defaultValue (zk_ty 5 j) = vp_V [.int 0, .null, .null, .null, .int 0, .int 0, .int 0, .int 0, .null, .null, .int 0, .null, .int 0, .long 0, .int 0, .int 0, .int 0, .int 0] j := by
  intro j hj
  match j, hj with
  | 0, _ => rfl
  | 1, _ => rfl
  | 2, _ => rfl
  | 3, _ => rfl
  | 4, _ => rfl
  | 5, _ => rfl
  | 6, _ => rfl
  | 7, _ => rfl
  | 8, _ => rfl
  | 9, _ => rfl
  | 10, _ => rfl
  | 11, _ => rfl
  | 12, _ => rfl
  | 13, _ => rfl
  | 14, _ => rfl
  | 15, _ => rfl
  | 16, _ => rfl
  | 17, _ => rfl
  | k + 18, h => exact absurd h (by omega)
theorem zw_424 : (Jvm.Cond.methodLink "OrreryBox$Picture" (3 : Nat) ({ cls := "java/lang/Object", name := "<init>", desc := "()V" } : Jvm.MethodName)) ∈ gw := gw_t 424 (by decide +kernel) rfl
theorem zw_425 : (Jvm.Cond.constant "OrreryBox$Picture" (9 : Nat) (663552 : Int32)) ∈ gw := gw_t 425 (by decide +kernel) rfl
theorem zw_441 : (Jvm.Cond.fieldLink "OrreryBox$Picture" (10 : Nat) "OrreryBox$Picture" "pieces" "[I") ∈ gw := gw_t 441 (by decide +kernel) rfl
theorem zw_426 : (Jvm.Cond.constant "OrreryBox$Picture" (16 : Nat) (36864 : Int32)) ∈ gw := gw_t 426 (by decide +kernel) rfl
theorem zw_442 : (Jvm.Cond.fieldLink "OrreryBox$Picture" (17 : Nat) "OrreryBox$Picture" "kinds" "[B") ∈ gw := gw_t 442 (by decide +kernel) rfl
theorem zw_427 : (Jvm.Cond.classLink "OrreryBox$Picture" (21 : Nat) "OrreryBox$Piece") ∈ gw := gw_t 427 (by decide +kernel) rfl
theorem zw_428 : (Jvm.Cond.methodLinkNest "OrreryBox$Picture" (23 : Nat) ({ cls := "OrreryBox$Piece", name := "<init>", desc := "()V" } : Jvm.MethodName) "OrreryBox") ∈ gn := gn_t 428 (by decide +kernel) rfl
theorem zs_XPicture_23 : zwIN "OrreryBox$Picture" 23 zy_XPiece_init "OrreryBox" zb_XPiece_init 1 := ⟨zw_428, zw_346, zw_11, zc_XPiece_init⟩
theorem zw_444 : (Jvm.Cond.fieldLink "OrreryBox$Picture" (24 : Nat) "OrreryBox$Picture" "piece" "LOrreryBox$Piece;") ∈ gw := gw_t 444 (by decide +kernel) rfl
theorem zw_437 : (Jvm.Cond.fieldLink "OrreryBox$Picture" (28 : Nat) "OrreryBox$Picture" "width" "I") ∈ gw := gw_t 437 (by decide +kernel) rfl
theorem zw_438 : (Jvm.Cond.fieldLink "OrreryBox$Picture" (32 : Nat) "OrreryBox$Picture" "height" "I") ∈ gw := gw_t 438 (by decide +kernel) rfl
theorem zw_439 : (Jvm.Cond.fieldLink "OrreryBox$Picture" (35 : Nat) "OrreryBox$Picture" "across" "I") ∈ gw := gw_t 439 (by decide +kernel) rfl
theorem zw_429 : (Jvm.Cond.fieldLink "OrreryBox$Picture" (38 : Nat) "OrreryBox$Picture" "tiles" "I") ∈ gw := gw_t 429 (by decide +kernel) rfl
theorem zw_431 : (Jvm.Cond.fieldLink "OrreryBox$Picture" (41 : Nat) "OrreryBox$Picture" "colours" "[I") ∈ gw := gw_t 431 (by decide +kernel) rfl
theorem zw_433 : (Jvm.Cond.fieldLink "OrreryBox$Picture" (44 : Nat) "OrreryBox$Picture" "nears" "[I") ∈ gw := gw_t 433 (by decide +kernel) rfl
def pcL (tA : Nat → ClassId) (b n W H : Nat) : List va_E := [.inl (tA 0, 663552, .inl (fun _ => 0)), .inl (tA 1, 36864, .inl (fun _ => 0)), .inr (6, [.long 0, .ref (b + (n + 3)), .long 0, .long 0, .long 0, .long 0]), .inl (tA 0, 18, .inl (fun _ => 0)), .inl (tA 0, (W * H), .inl (fun _ => 0)), .inl (tA 0, (W * H), .inl (fun _ => 0))]
def pcO (b n W H : Nat) : List Value := [.int ((((nI W) + 7) / 8) * (((nI H) + 7) / 8)), .ref (b + (n + 4)), .ref (b + (n + 5)), .null, .int (nI W), .int (nI H), .int (((nI W) + 7) / 8), .int 0, .ref (b + (n)), .ref (b + (n + 1)), .int 0, .ref (b + (n + 2)), .int 0, .long 0, .int 0, .int 0, .int 0, .int 0]
set_option maxHeartbeats 4000000 in
set_option maxRecDepth 100000 in
theorem c_XPicture_init (l : Launch) (D : va_G) (tA : Nat → ClassId) (b : Nat) (f : zV) (n : Nat) (k W H : Nat) (hWH : W * H ≤ 2304) (hf : f k = some (.inr (5, [.int 0, .null, .null, .null, .int 0, .int 0, .int 0, .int 0, .null, .null, .int 0, .null, .int 0, .long 0, .int 0, .int 0, .int 0, .int 0]))) : zM l D tA b zy_XPicture_init zb_XPicture_init 3 none 2 40 6 705048 [.ref (b + k), .int (nI W), .int (nI H)] f n (zE none (zu (zb f n (pcL tA b n W H)) k (.inr (5, pcO b n W H))) (n + 6)) := by
  refine zM_of (own := "OrreryBox$Picture") (plainFor_of_name (by decide)) rfl (Nat.le_of_ble_eq_true rfl) (fun p e s m below meth c F hr hin hH => ?_)
  have hk := hH.lt hf
  refine zr_aload_n F zd_XPicture_init_0 rfl ?_
  refine zr_objInit F zd_XPicture_init_1 zw_424 zw_35 zw_36 (Nat.le_of_ble_eq_true rfl) (Nat.le_of_ble_eq_true rfl) ?_
  refine zr_norm (zu (zb f n []) k (.inr (5, [.int 0, .null, .null, .null, .int 0, .int 0, .int 0, .int 0, .null, .null, .int 0, .null, .int 0, .long 0, .int 0, .int 0, .int 0, .int 0]))) (n) (zb_0 hf) rfl ?_
  refine zr_aload_n F zd_XPicture_init_4 rfl ?_
  refine zr_ldc F zd_XPicture_init_5 zw_425 ?_
  refine zr_newa (N := 663552) (a0 := (663552, .inl (fun _ => 0))) F 0 zd_XPicture_init_7 rfl rfl zw_74 (fun _ => rfl) (by decide) (by decide) (Nat.le_of_ble_eq_true rfl) (Nat.le_of_ble_eq_true rfl) (Nat.le_of_ble_eq_true rfl) ?_
  refine zr_norm (zu (zb f n [.inl (tA 0, 663552, .inl (fun _ => 0))]) k (.inr (5, [.int 0, .null, .null, .null, .int 0, .int 0, .int 0, .int 0, .null, .null, .int 0, .null, .int 0, .long 0, .int 0, .int 0, .int 0, .int 0]))) (n + 1) (zb_a hk rfl rfl) rfl ?_
  refine zr_putF F 5 8 zd_XPicture_init_9 (zu_s _ _ _) rfl (by decide) zw_441 rfl rfl hin rfl rfl rfl (by exact (Nat.le_of_ble_eq_true rfl)) ?_
  refine zr_norm (zu (zb f n [.inl (tA 0, 663552, .inl (fun _ => 0))]) k (.inr (5, [.int 0, .null, .null, .null, .int 0, .int 0, .int 0, .int 0, .ref (b + (n)), .null, .int 0, .null, .int 0, .long 0, .int 0, .int 0, .int 0, .int 0]))) (n + 1) (zu_zu _ _ _ _) rfl ?_
  refine zr_aload_n F zd_XPicture_init_12 rfl ?_
  refine zr_ldc F zd_XPicture_init_13 zw_426 ?_
  refine zr_newa (N := 36864) (a0 := (36864, .inl (fun _ => 0))) F 1 zd_XPicture_init_15 rfl rfl zw_73 (fun _ => rfl) (by decide) (by decide) (Nat.le_of_ble_eq_true rfl) (Nat.le_of_ble_eq_true rfl) (Nat.le_of_ble_eq_true rfl) ?_
  refine zr_norm (zu (zb f n [.inl (tA 0, 663552, .inl (fun _ => 0)), .inl (tA 1, 36864, .inl (fun _ => 0))]) k (.inr (5, [.int 0, .null, .null, .null, .int 0, .int 0, .int 0, .int 0, .ref (b + (n)), .null, .int 0, .null, .int 0, .long 0, .int 0, .int 0, .int 0, .int 0]))) (n + 2) (zb_a hk rfl rfl) rfl ?_
  refine zr_putF F 5 9 zd_XPicture_init_17 (zu_s _ _ _) rfl (by decide) zw_442 rfl rfl hin rfl rfl rfl (by exact (Nat.le_of_ble_eq_true rfl)) ?_
  refine zr_norm (zu (zb f n [.inl (tA 0, 663552, .inl (fun _ => 0)), .inl (tA 1, 36864, .inl (fun _ => 0))]) k (.inr (5, [.int 0, .null, .null, .null, .int 0, .int 0, .int 0, .int 0, .ref (b + (n)), .ref (b + (n + 1)), .int 0, .null, .int 0, .long 0, .int 0, .int 0, .int 0, .int 0]))) (n + 2) (zu_zu _ _ _ _) rfl ?_
  refine zr_aload_n F zd_XPicture_init_20 rfl ?_
  refine zr_new (fs := [.long 0, .null, .long 0, .long 0, .long 0, .long 0]) F 6 zd_XPicture_init_21 rfl zw_427 zw_344 zw_11 (zdef_XPiece) (Nat.le_of_ble_eq_true rfl) (Nat.le_of_ble_eq_true rfl) ?_
  refine zr_norm (zu (zb f n [.inl (tA 0, 663552, .inl (fun _ => 0)), .inl (tA 1, 36864, .inl (fun _ => 0)), .inr (6, [.long 0, .null, .long 0, .long 0, .long 0, .long 0])]) k (.inr (5, [.int 0, .null, .null, .null, .int 0, .int 0, .int 0, .int 0, .ref (b + (n)), .ref (b + (n + 1)), .int 0, .null, .int 0, .long 0, .int 0, .int 0, .int 0, .int 0]))) (n + 3) (zb_a hk rfl rfl) rfl ?_
  refine zr_dup F zd_XPicture_init_24 rfl ?_
  refine zr_callIN0 F (c_XPiece_init l D tA b _ _ (n + 2) (zb_g (i := 2) hk rfl rfl)) zd_XPicture_init_25 zs_XPicture_23 rfl zq_XPiece_init rfl rfl ⟨(Nat.le_of_ble_eq_true rfl), (Nat.le_of_ble_eq_true rfl)⟩ (Nat.le_of_ble_eq_true rfl) ⟨(Nat.le_of_ble_eq_true rfl), (Nat.le_of_ble_eq_true rfl)⟩ ?_
  refine zr_norm (zu (zu (zb f n [.inl (tA 0, 663552, .inl (fun _ => 0)), .inl (tA 1, 36864, .inl (fun _ => 0)), .inr (6, [.long 0, .null, .long 0, .long 0, .long 0, .long 0]), .inl (tA 0, 18, .inl (fun _ => 0))]) k (.inr (5, [.int 0, .null, .null, .null, .int 0, .int 0, .int 0, .int 0, .ref (b + (n)), .ref (b + (n + 1)), .int 0, .null, .int 0, .long 0, .int 0, .int 0, .int 0, .int 0]))) (n + 2) (.inr (6, [.long 0, .ref (b + (n + 3)), .long 0, .long 0, .long 0, .long 0]))) (n + 4) (congrArg (fun g => zu g (n + 2) (.inr (6, [.long 0, .ref (b + (n + 3)), .long 0, .long 0, .long 0, .long 0]))) (zb_a hk rfl rfl)) rfl ?_
  refine zr_norm (zu (zb f n [.inl (tA 0, 663552, .inl (fun _ => 0)), .inl (tA 1, 36864, .inl (fun _ => 0)), .inr (6, [.long 0, .ref (b + (n + 3)), .long 0, .long 0, .long 0, .long 0]), .inl (tA 0, 18, .inl (fun _ => 0))]) k (.inr (5, [.int 0, .null, .null, .null, .int 0, .int 0, .int 0, .int 0, .ref (b + (n)), .ref (b + (n + 1)), .int 0, .null, .int 0, .long 0, .int 0, .int 0, .int 0, .int 0]))) (n + 4) (zb_s (i := 2) hk rfl (Nat.le_of_ble_eq_true rfl) rfl) rfl ?_
  refine zr_putF F 5 11 zd_XPicture_init_28 (zu_s _ _ _) rfl (by decide) zw_444 rfl rfl hin rfl rfl rfl (by exact (Nat.le_of_ble_eq_true rfl)) ?_
  refine zr_norm (zu (zb f n [.inl (tA 0, 663552, .inl (fun _ => 0)), .inl (tA 1, 36864, .inl (fun _ => 0)), .inr (6, [.long 0, .ref (b + (n + 3)), .long 0, .long 0, .long 0, .long 0]), .inl (tA 0, 18, .inl (fun _ => 0))]) k (.inr (5, [.int 0, .null, .null, .null, .int 0, .int 0, .int 0, .int 0, .ref (b + (n)), .ref (b + (n + 1)), .int 0, .ref (b + (n + 2)), .int 0, .long 0, .int 0, .int 0, .int 0, .int 0]))) (n + 4) (zu_zu _ _ _ _) rfl ?_
  refine zr_aload_n F zd_XPicture_init_31 rfl ?_
  refine zr_iload_n F zd_XPicture_init_32 rfl ?_
  refine zr_putF F 5 4 zd_XPicture_init_33 (zu_s _ _ _) rfl (by decide) zw_437 rfl rfl hin rfl rfl rfl (by exact (Nat.le_of_ble_eq_true rfl)) ?_
  refine zr_norm (zu (zb f n [.inl (tA 0, 663552, .inl (fun _ => 0)), .inl (tA 1, 36864, .inl (fun _ => 0)), .inr (6, [.long 0, .ref (b + (n + 3)), .long 0, .long 0, .long 0, .long 0]), .inl (tA 0, 18, .inl (fun _ => 0))]) k (.inr (5, [.int 0, .null, .null, .null, .int (nI W), .int 0, .int 0, .int 0, .ref (b + (n)), .ref (b + (n + 1)), .int 0, .ref (b + (n + 2)), .int 0, .long 0, .int 0, .int 0, .int 0, .int 0]))) (n + 4) (zu_zu _ _ _ _) rfl ?_
  refine zr_aload_n F zd_XPicture_init_36 rfl ?_
  refine zr_iload_n F zd_XPicture_init_37 rfl ?_
  refine zr_putF F 5 5 zd_XPicture_init_38 (zu_s _ _ _) rfl (by decide) zw_438 rfl rfl hin rfl rfl rfl (by exact (Nat.le_of_ble_eq_true rfl)) ?_
  refine zr_norm (zu (zb f n [.inl (tA 0, 663552, .inl (fun _ => 0)), .inl (tA 1, 36864, .inl (fun _ => 0)), .inr (6, [.long 0, .ref (b + (n + 3)), .long 0, .long 0, .long 0, .long 0]), .inl (tA 0, 18, .inl (fun _ => 0))]) k (.inr (5, [.int 0, .null, .null, .null, .int (nI W), .int (nI H), .int 0, .int 0, .ref (b + (n)), .ref (b + (n + 1)), .int 0, .ref (b + (n + 2)), .int 0, .long 0, .int 0, .int 0, .int 0, .int 0]))) (n + 4) (zu_zu _ _ _ _) rfl ?_
  refine zr_aload_n F zd_XPicture_init_41 rfl ?_
  refine zr_iload_n F zd_XPicture_init_42 rfl ?_
  refine zr_bipushv (v := 7) F zd_XPicture_init_43 (by decide) ?_
  refine zr_iadd F zd_XPicture_init_45 ?_
  refine zr_bipushv (v := 8) F zd_XPicture_init_46 (by decide) ?_
  refine zr_idiv F zd_XPicture_init_48 (by decide) ?_
  refine zr_putF F 5 6 zd_XPicture_init_49 (zu_s _ _ _) rfl (by decide) zw_439 rfl rfl hin rfl rfl rfl (by exact (Nat.le_of_ble_eq_true rfl)) ?_
  refine zr_norm (zu (zb f n [.inl (tA 0, 663552, .inl (fun _ => 0)), .inl (tA 1, 36864, .inl (fun _ => 0)), .inr (6, [.long 0, .ref (b + (n + 3)), .long 0, .long 0, .long 0, .long 0]), .inl (tA 0, 18, .inl (fun _ => 0))]) k (.inr (5, [.int 0, .null, .null, .null, .int (nI W), .int (nI H), .int (((nI W) + 7) / 8), .int 0, .ref (b + (n)), .ref (b + (n + 1)), .int 0, .ref (b + (n + 2)), .int 0, .long 0, .int 0, .int 0, .int 0, .int 0]))) (n + 4) (zu_zu _ _ _ _) rfl ?_
  refine zr_aload_n F zd_XPicture_init_52 rfl ?_
  refine zr_aload_n F zd_XPicture_init_53 rfl ?_
  refine zr_get F 5 6 zd_XPicture_init_54 (zu_s _ _ _) rfl (by decide) zw_439 rfl (by rfl) ?_
  refine zr_iload_n F zd_XPicture_init_57 rfl ?_
  refine zr_bipushv (v := 7) F zd_XPicture_init_58 (by decide) ?_
  refine zr_iadd F zd_XPicture_init_60 ?_
  refine zr_bipushv (v := 8) F zd_XPicture_init_61 (by decide) ?_
  refine zr_idiv F zd_XPicture_init_63 (by decide) ?_
  refine zr_imul F zd_XPicture_init_64 ?_
  refine zr_putF F 5 0 zd_XPicture_init_65 (zu_s _ _ _) rfl (by decide) zw_429 rfl rfl hin rfl rfl rfl (by exact (Nat.le_of_ble_eq_true rfl)) ?_
  refine zr_norm (zu (zb f n [.inl (tA 0, 663552, .inl (fun _ => 0)), .inl (tA 1, 36864, .inl (fun _ => 0)), .inr (6, [.long 0, .ref (b + (n + 3)), .long 0, .long 0, .long 0, .long 0]), .inl (tA 0, 18, .inl (fun _ => 0))]) k (.inr (5, [.int ((((nI W) + 7) / 8) * (((nI H) + 7) / 8)), .null, .null, .null, .int (nI W), .int (nI H), .int (((nI W) + 7) / 8), .int 0, .ref (b + (n)), .ref (b + (n + 1)), .int 0, .ref (b + (n + 2)), .int 0, .long 0, .int 0, .int 0, .int 0, .int 0]))) (n + 4) (zu_zu _ _ _ _) rfl ?_
  refine zr_aload_n F zd_XPicture_init_68 rfl ?_
  refine zr_iload_n F zd_XPicture_init_69 rfl ?_
  refine zr_iload_n F zd_XPicture_init_70 rfl ?_
  refine zr_imul F zd_XPicture_init_71 ?_
  refine zr_newa (N := (W * H)) (a0 := ((W * H), .inl (fun _ => 0))) F 0 zd_XPicture_init_72 rfl rfl zw_74 (fun _ => rfl) (by rw [pk_mul]; exact nI_pos (by omega)) (by rw [pk_mul]; exact nI_clamp (by omega)) (by show W * H * 4 ≤ 536870912; omega) (Nat.le_of_ble_eq_true rfl) (by show _ ≤ 705048; omega) ?_
  refine zr_norm (zu (zb f n [.inl (tA 0, 663552, .inl (fun _ => 0)), .inl (tA 1, 36864, .inl (fun _ => 0)), .inr (6, [.long 0, .ref (b + (n + 3)), .long 0, .long 0, .long 0, .long 0]), .inl (tA 0, 18, .inl (fun _ => 0)), .inl (tA 0, (W * H), .inl (fun _ => 0))]) k (.inr (5, [.int ((((nI W) + 7) / 8) * (((nI H) + 7) / 8)), .null, .null, .null, .int (nI W), .int (nI H), .int (((nI W) + 7) / 8), .int 0, .ref (b + (n)), .ref (b + (n + 1)), .int 0, .ref (b + (n + 2)), .int 0, .long 0, .int 0, .int 0, .int 0, .int 0]))) (n + 5) (zb_a hk rfl rfl) rfl ?_
  refine zr_putF F 5 1 zd_XPicture_init_74 (zu_s _ _ _) rfl (by decide) zw_431 rfl rfl hin rfl rfl rfl (by exact (Nat.le_of_ble_eq_true rfl)) ?_
  refine zr_norm (zu (zb f n [.inl (tA 0, 663552, .inl (fun _ => 0)), .inl (tA 1, 36864, .inl (fun _ => 0)), .inr (6, [.long 0, .ref (b + (n + 3)), .long 0, .long 0, .long 0, .long 0]), .inl (tA 0, 18, .inl (fun _ => 0)), .inl (tA 0, (W * H), .inl (fun _ => 0))]) k (.inr (5, [.int ((((nI W) + 7) / 8) * (((nI H) + 7) / 8)), .ref (b + (n + 4)), .null, .null, .int (nI W), .int (nI H), .int (((nI W) + 7) / 8), .int 0, .ref (b + (n)), .ref (b + (n + 1)), .int 0, .ref (b + (n + 2)), .int 0, .long 0, .int 0, .int 0, .int 0, .int 0]))) (n + 5) (zu_zu _ _ _ _) rfl ?_
  refine zr_aload_n F zd_XPicture_init_77 rfl ?_
  refine zr_iload_n F zd_XPicture_init_78 rfl ?_
  refine zr_iload_n F zd_XPicture_init_79 rfl ?_
  refine zr_imul F zd_XPicture_init_80 ?_
  refine zr_newa (N := (W * H)) (a0 := ((W * H), .inl (fun _ => 0))) F 0 zd_XPicture_init_81 rfl rfl zw_74 (fun _ => rfl) (by rw [pk_mul]; exact nI_pos (by omega)) (by rw [pk_mul]; exact nI_clamp (by omega)) (by show W * H * 4 ≤ 536870912; omega) (Nat.le_of_ble_eq_true rfl) (by show _ ≤ 705048; omega) ?_
  refine zr_norm (zu (zb f n [.inl (tA 0, 663552, .inl (fun _ => 0)), .inl (tA 1, 36864, .inl (fun _ => 0)), .inr (6, [.long 0, .ref (b + (n + 3)), .long 0, .long 0, .long 0, .long 0]), .inl (tA 0, 18, .inl (fun _ => 0)), .inl (tA 0, (W * H), .inl (fun _ => 0)), .inl (tA 0, (W * H), .inl (fun _ => 0))]) k (.inr (5, [.int ((((nI W) + 7) / 8) * (((nI H) + 7) / 8)), .ref (b + (n + 4)), .null, .null, .int (nI W), .int (nI H), .int (((nI W) + 7) / 8), .int 0, .ref (b + (n)), .ref (b + (n + 1)), .int 0, .ref (b + (n + 2)), .int 0, .long 0, .int 0, .int 0, .int 0, .int 0]))) (n + 6) (zb_a hk rfl rfl) rfl ?_
  refine zr_putF F 5 2 zd_XPicture_init_83 (zu_s _ _ _) rfl (by decide) zw_433 rfl rfl hin rfl rfl rfl (by exact (Nat.le_of_ble_eq_true rfl)) ?_
  refine zr_norm (zu (zb f n [.inl (tA 0, 663552, .inl (fun _ => 0)), .inl (tA 1, 36864, .inl (fun _ => 0)), .inr (6, [.long 0, .ref (b + (n + 3)), .long 0, .long 0, .long 0, .long 0]), .inl (tA 0, 18, .inl (fun _ => 0)), .inl (tA 0, (W * H), .inl (fun _ => 0)), .inl (tA 0, (W * H), .inl (fun _ => 0))]) k (.inr (5, [.int ((((nI W) + 7) / 8) * (((nI H) + 7) / 8)), .ref (b + (n + 4)), .ref (b + (n + 5)), .null, .int (nI W), .int (nI H), .int (((nI W) + 7) / 8), .int 0, .ref (b + (n)), .ref (b + (n + 1)), .int 0, .ref (b + (n + 2)), .int 0, .long 0, .int 0, .int 0, .int 0, .int 0]))) (n + 6) (zu_zu _ _ _ _) rfl ?_
  exact zr_vret F hr zd_XPicture_init_86 (Nat.le_of_ble_eq_true rfl) (by show _ ≤ 705048; omega) ⟨rfl, rfl, rfl⟩
abbrev zb_OB_nearest : ByteArray := prog_1_method_28_code
def zy_OB_nearest : MethodName := ⟨"OrreryBox", "nearest", "(III)I"⟩
theorem zc_OB_nearest : Cond.code zy_OB_nearest zb_OB_nearest 3 (some .int) ∈ gw := gw_t 119 (by decide +kernel) rfl
theorem zq_OB_nearest : zy_OB_nearest.cls ≠ "java/lang/invoke/MethodHandle" ∧ zy_OB_nearest.cls ≠ "java/lang/invoke/VarHandle" ∧ (parseMethodDescriptor zy_OB_nearest.desc).map (fun d => d.parameters.length) = some 3 := by decide +kernel
theorem zd_OB_nearest_0 : decode zb_OB_nearest 0 = .ok (.iload_n 1, 1) := by decide +kernel
theorem zd_OB_nearest_1 : decode zb_OB_nearest 1 = .ok (.iload_n 2, 1) := by decide +kernel
theorem zd_OB_nearest_2 : decode zb_OB_nearest 2 = .ok (.iload_n 0, 1) := by decide +kernel
theorem zd_OB_nearest_3 : decode zb_OB_nearest 3 = .ok (.invokestatic 233, 3) := by decide +kernel
theorem zd_OB_nearest_6 : decode zb_OB_nearest 6 = .ok (.invokestatic 239, 3) := by decide +kernel
theorem zd_OB_nearest_9 : decode zb_OB_nearest 9 = .ok (.ireturn, 1) := by decide +kernel
theorem zw_120 : (Jvm.Cond.methodLink "OrreryBox" (233 : Nat) ({ cls := "java/lang/Math", name := "min", desc := "(II)I" } : Jvm.MethodName)) ∈ gw := gw_t 120 (by decide +kernel) rfl
theorem zw_121 : (Jvm.Cond.static ({ cls := "java/lang/Math", name := "min", desc := "(II)I" } : Jvm.MethodName)) ∈ gw := gw_t 121 (by decide +kernel) rfl
theorem zs_OB_233 : zwS "OrreryBox" 233 zy_JMath_min zb_JMath_min 2 (some .int) := ⟨zw_120, zw_121, zw_4, zc_JMath_min⟩
theorem zw_123 : (Jvm.Cond.methodLink "OrreryBox" (239 : Nat) ({ cls := "java/lang/Math", name := "max", desc := "(II)I" } : Jvm.MethodName)) ∈ gw := gw_t 123 (by decide +kernel) rfl
theorem zw_124 : (Jvm.Cond.static ({ cls := "java/lang/Math", name := "max", desc := "(II)I" } : Jvm.MethodName)) ∈ gw := gw_t 124 (by decide +kernel) rfl
theorem zs_OB_239 : zwS "OrreryBox" 239 zy_JMath_max zb_JMath_max 2 (some .int) := ⟨zw_123, zw_124, zw_4, zc_JMath_max⟩
set_option maxHeartbeats 4000000 in
set_option maxRecDepth 100000 in
theorem c_OB_nearest (l : Launch) (D : va_G) (tA : Nat → ClassId) (b : Nat) (f : zV) (n : Nat) (x y z : Int32)  : zM l D tA b zy_OB_nearest zb_OB_nearest 3 (some .int) 1 21 0 0 [.int x, .int y, .int z] f n (zE (some (.int (zx_max y (zx_min z x)))) f n) := by
  refine zM_of (own := "OrreryBox") (plainFor_of_name (by decide)) rfl (Nat.le_of_ble_eq_true rfl) (fun p e s m below meth c F hr hin hH => ?_)
  refine zr_iload_n F zd_OB_nearest_0 rfl ?_
  refine zr_iload_n F zd_OB_nearest_1 rfl ?_
  refine zr_iload_n F zd_OB_nearest_2 rfl ?_
  refine zr_callS1 F (c_JMath_min l D tA b f n z x) zd_OB_nearest_3 zs_OB_233 zq_JMath_min rfl rfl ⟨(Nat.le_of_ble_eq_true rfl), (Nat.le_of_ble_eq_true rfl)⟩ (Nat.le_of_ble_eq_true rfl) ⟨(Nat.le_of_ble_eq_true rfl), (Nat.le_of_ble_eq_true rfl)⟩ ?_
  refine zr_callS1 F (c_JMath_max l D tA b f n y (zx_min z x)) zd_OB_nearest_6 zs_OB_239 zq_JMath_max rfl rfl ⟨(Nat.le_of_ble_eq_true rfl), (Nat.le_of_ble_eq_true rfl)⟩ (Nat.le_of_ble_eq_true rfl) ⟨(Nat.le_of_ble_eq_true rfl), (Nat.le_of_ble_eq_true rfl)⟩ ?_
  exact zr_iret F hr zd_OB_nearest_9 (Nat.le_of_ble_eq_true rfl) (Nat.le_of_ble_eq_true rfl) ⟨rfl, rfl, rfl⟩
abbrev zb_XScene_clear : ByteArray := prog_9_method_2_code
def zy_XScene_clear : MethodName := ⟨"OrreryBox$Scene", "clear", "()V"⟩
theorem zc_XScene_clear : Cond.code zy_XScene_clear zb_XScene_clear 2 none ∈ gw := gw_t 279 (by decide +kernel) rfl
theorem zq_XScene_clear : zy_XScene_clear.cls ≠ "java/lang/invoke/MethodHandle" ∧ zy_XScene_clear.cls ≠ "java/lang/invoke/VarHandle" ∧ (parseMethodDescriptor zy_XScene_clear.desc).map (fun d => d.parameters.length) = some 0 := by decide +kernel
theorem zd_XScene_clear_0 : decode zb_XScene_clear 0 = .ok (.iconst 0, 1) := by decide +kernel
theorem zd_XScene_clear_1 : decode zb_XScene_clear 1 = .ok (.istore_n 1, 1) := by decide +kernel
theorem zd_XScene_clear_2 : decode zb_XScene_clear 2 = .ok (.iload_n 1, 1) := by decide +kernel
theorem zd_XScene_clear_3 : decode zb_XScene_clear 3 = .ok (.aload_n 0, 1) := by decide +kernel
theorem zd_XScene_clear_4 : decode zb_XScene_clear 4 = .ok (.getfield 9, 3) := by decide +kernel
theorem zd_XScene_clear_7 : decode zb_XScene_clear 7 = .ok (.arraylength, 1) := by decide +kernel
theorem zd_XScene_clear_8 : decode zb_XScene_clear 8 = .ok (.if_icmp .ge 16, 3) := by decide +kernel
theorem zd_XScene_clear_11 : decode zb_XScene_clear 11 = .ok (.aload_n 0, 1) := by decide +kernel
theorem zd_XScene_clear_12 : decode zb_XScene_clear 12 = .ok (.getfield 9, 3) := by decide +kernel
theorem zd_XScene_clear_15 : decode zb_XScene_clear 15 = .ok (.iload_n 1, 1) := by decide +kernel
theorem zd_XScene_clear_16 : decode zb_XScene_clear 16 = .ok (.iconst 0, 1) := by decide +kernel
theorem zd_XScene_clear_17 : decode zb_XScene_clear 17 = .ok (.iastore, 1) := by decide +kernel
theorem zd_XScene_clear_18 : decode zb_XScene_clear 18 = .ok (.iinc 1 1, 3) := by decide +kernel
theorem zd_XScene_clear_21 : decode zb_XScene_clear 21 = .ok (.goto (-19), 3) := by decide +kernel
theorem zd_XScene_clear_24 : decode zb_XScene_clear 24 = .ok (.iconst 0, 1) := by decide +kernel
theorem zd_XScene_clear_25 : decode zb_XScene_clear 25 = .ok (.istore_n 1, 1) := by decide +kernel
theorem zd_XScene_clear_26 : decode zb_XScene_clear 26 = .ok (.iload_n 1, 1) := by decide +kernel
theorem zd_XScene_clear_27 : decode zb_XScene_clear 27 = .ok (.bipush 6, 2) := by decide +kernel
theorem zd_XScene_clear_29 : decode zb_XScene_clear 29 = .ok (.if_icmp .ge 16, 3) := by decide +kernel
theorem zd_XScene_clear_32 : decode zb_XScene_clear 32 = .ok (.aload_n 0, 1) := by decide +kernel
theorem zd_XScene_clear_33 : decode zb_XScene_clear 33 = .ok (.getfield 47, 3) := by decide +kernel
theorem zd_XScene_clear_36 : decode zb_XScene_clear 36 = .ok (.iload_n 1, 1) := by decide +kernel
theorem zd_XScene_clear_37 : decode zb_XScene_clear 37 = .ok (.iconst 0, 1) := by decide +kernel
theorem zd_XScene_clear_38 : decode zb_XScene_clear 38 = .ok (.iastore, 1) := by decide +kernel
theorem zd_XScene_clear_39 : decode zb_XScene_clear 39 = .ok (.iinc 1 1, 3) := by decide +kernel
theorem zd_XScene_clear_42 : decode zb_XScene_clear 42 = .ok (.goto (-16), 3) := by decide +kernel
theorem zd_XScene_clear_45 : decode zb_XScene_clear 45 = .ok (.aload_n 0, 1) := by decide +kernel
theorem zd_XScene_clear_46 : decode zb_XScene_clear 46 = .ok (.getfield 47, 3) := by decide +kernel
theorem zd_XScene_clear_49 : decode zb_XScene_clear 49 = .ok (.bipush 6, 2) := by decide +kernel
theorem zd_XScene_clear_51 : decode zb_XScene_clear 51 = .ok (.bipush 32, 2) := by decide +kernel
theorem zd_XScene_clear_53 : decode zb_XScene_clear 53 = .ok (.iastore, 1) := by decide +kernel
theorem zd_XScene_clear_54 : decode zb_XScene_clear 54 = .ok (.aload_n 0, 1) := by decide +kernel
theorem zd_XScene_clear_55 : decode zb_XScene_clear 55 = .ok (.getfield 50, 3) := by decide +kernel
theorem zd_XScene_clear_58 : decode zb_XScene_clear 58 = .ok (.iconst 0, 1) := by decide +kernel
theorem zd_XScene_clear_59 : decode zb_XScene_clear 59 = .ok (.iconst 0, 1) := by decide +kernel
theorem zd_XScene_clear_60 : decode zb_XScene_clear 60 = .ok (.iastore, 1) := by decide +kernel
theorem zd_XScene_clear_61 : decode zb_XScene_clear 61 = .ok (.aload_n 0, 1) := by decide +kernel
theorem zd_XScene_clear_62 : decode zb_XScene_clear 62 = .ok (.getfield 50, 3) := by decide +kernel
theorem zd_XScene_clear_65 : decode zb_XScene_clear 65 = .ok (.iconst 1, 1) := by decide +kernel
theorem zd_XScene_clear_66 : decode zb_XScene_clear 66 = .ok (.iconst 0, 1) := by decide +kernel
theorem zd_XScene_clear_67 : decode zb_XScene_clear 67 = .ok (.iastore, 1) := by decide +kernel
theorem zd_XScene_clear_68 : decode zb_XScene_clear 68 = .ok (.aload_n 0, 1) := by decide +kernel
theorem zd_XScene_clear_69 : decode zb_XScene_clear 69 = .ok (.getfield 50, 3) := by decide +kernel
theorem zd_XScene_clear_72 : decode zb_XScene_clear 72 = .ok (.iconst 2, 1) := by decide +kernel
theorem zd_XScene_clear_73 : decode zb_XScene_clear 73 = .ok (.ldc 63, 2) := by decide +kernel
theorem zd_XScene_clear_75 : decode zb_XScene_clear 75 = .ok (.iastore, 1) := by decide +kernel
theorem zd_XScene_clear_76 : decode zb_XScene_clear 76 = .ok (.aload_n 0, 1) := by decide +kernel
theorem zd_XScene_clear_77 : decode zb_XScene_clear 77 = .ok (.getfield 50, 3) := by decide +kernel
theorem zd_XScene_clear_80 : decode zb_XScene_clear 80 = .ok (.iconst 3, 1) := by decide +kernel
theorem zd_XScene_clear_81 : decode zb_XScene_clear 81 = .ok (.sipush 16384, 3) := by decide +kernel
theorem zd_XScene_clear_84 : decode zb_XScene_clear 84 = .ok (.iastore, 1) := by decide +kernel
theorem zd_XScene_clear_85 : decode zb_XScene_clear 85 = .ok (.aload_n 0, 1) := by decide +kernel
theorem zd_XScene_clear_86 : decode zb_XScene_clear 86 = .ok (.iconst 0, 1) := by decide +kernel
theorem zd_XScene_clear_87 : decode zb_XScene_clear 87 = .ok (.putfield 64, 3) := by decide +kernel
theorem zd_XScene_clear_90 : decode zb_XScene_clear 90 = .ok (.aload_n 0, 1) := by decide +kernel
theorem zd_XScene_clear_91 : decode zb_XScene_clear 91 = .ok (.iconst 0, 1) := by decide +kernel
theorem zd_XScene_clear_92 : decode zb_XScene_clear 92 = .ok (.putfield 68, 3) := by decide +kernel
theorem zd_XScene_clear_95 : decode zb_XScene_clear 95 = .ok (.return_, 1) := by decide +kernel
def zclr (g : Nat → Int32) (N : Nat) : Nat → Int32 := fun j => if j < N then 0 else g j
theorem zclr_0 (g : Nat → Int32) : zclr g 0 = g := by funext j; simp [zclr]
theorem zclr_s (g : Nat → Int32) (N : Nat) : upd (zclr g N) N 0 = zclr g (N + 1) := by
  funext j
  unfold upd zclr
  by_cases h : j = N
  · simp [h]
  · by_cases h2 : j < N
    · simp [h, h2, Nat.lt_succ_of_lt h2]
    · simp [h, h2, show ¬ j < N + 1 by omega]
def zview (g : Nat → Int32) : Nat → Int32 := upd (zclr g 6) 6 32
def zlamp (g : Nat → Int32) : Nat → Int32 := upd (upd (upd (upd g 0 0) 1 0) 2 (-65536)) 3 16384
theorem zw_281 : (Jvm.Cond.fieldLink "OrreryBox$Scene" (9 : Nat) "OrreryBox$Scene" "counts" "[I") ∈ gw := gw_t 281 (by decide +kernel) rfl
theorem zw_301 : (Jvm.Cond.fieldLink "OrreryBox$Scene" (47 : Nat) "OrreryBox$Scene" "viewer" "[I") ∈ gw := gw_t 301 (by decide +kernel) rfl
theorem zw_305 : (Jvm.Cond.fieldLink "OrreryBox$Scene" (50 : Nat) "OrreryBox$Scene" "lamp" "[I") ∈ gw := gw_t 305 (by decide +kernel) rfl
theorem zw_280 : (Jvm.Cond.constant "OrreryBox$Scene" (63 : Nat) (-65536 : Int32)) ∈ gw := gw_t 280 (by decide +kernel) rfl
theorem zw_309 : (Jvm.Cond.fieldLink "OrreryBox$Scene" (64 : Nat) "OrreryBox$Scene" "now" "I") ∈ gw := gw_t 309 (by decide +kernel) rfl
theorem zw_311 : (Jvm.Cond.fieldLink "OrreryBox$Scene" (68 : Nat) "OrreryBox$Scene" "placed" "Z") ∈ gw := gw_t 311 (by decide +kernel) rfl
theorem zu_id {f : zV} {k : Nat} {x : va_E} (h : f k = some x) : f = zu f k x := by
  funext a
  by_cases h1 : a = k
  · subst h1
    rw [zu_s, h]
  · rw [zu_n _ h1]
set_option maxHeartbeats 4000000 in
set_option maxRecDepth 100000 in
theorem c_XScene_clear (l : Launch) (D : va_G) (tA : Nat → ClassId) (b : Nat) (f : zV) (n : Nat) (a ac av al : Nat) (r1 r2 r3 r4 r5 r10 : Value) (v8 v9 : Int32) (gc gv gl : Nat → Int32) (hd : a ≠ ac ∧ a ≠ av ∧ a ≠ al ∧ ac ≠ av ∧ ac ≠ al ∧ av ≠ al) (hf : f a = some (.inr (8, [.ref (b + ac), r1, r2, r3, r4, r5, .ref (b + av), .ref (b + al), .int v8, .int v9, r10]))) (hc : f ac = some (.inl (tA 0, 5, .inl gc))) (hv : f av = some (.inl (tA 0, 7, .inl gv))) (hl : f al = some (.inl (tA 0, 4, .inl gl))) : zM l D tA b zy_XScene_clear zb_XScene_clear 2 none 0 0 0 0 [.ref (b + a)] f n (zE none (zu (zu (zu (zu f ac (.inl (tA 0, 5, .inl (zclr gc 5)))) av (.inl (tA 0, 7, .inl (zview gv)))) al (.inl (tA 0, 4, .inl (zlamp gl)))) a (.inr (8, [.ref (b + ac), r1, r2, r3, r4, r5, .ref (b + av), .ref (b + al), .int 0, .int 0, r10]))) n) := by
  refine zM_of (own := "OrreryBox$Scene") (plainFor_of_name (by decide)) rfl (Nat.le_of_ble_eq_true rfl) (fun p e s m below meth c F hr hin hH => ?_)
  refine zr_norm (zu f ac (.inl (tA 0, 5, .inl (zclr gc 0)))) n (by rw [zclr_0]; exact zu_id hc) rfl ?_
  refine zr_iconstv (v := 0) F zd_XScene_clear_0 (by decide) ?_
  refine zr_istore_n F zd_XScene_clear_1 (by decide) ?_
  refine zr_iload_n F zd_XScene_clear_2 rfl ?_
  refine zr_aload_n F zd_XScene_clear_3 rfl ?_
  refine zr_get F 8 0 zd_XScene_clear_4 ((zu_n _ (by omega)).trans hf) rfl (by decide) zw_281 rfl (by rfl) ?_
  refine zr_alen (v := 5) F 0 zd_XScene_clear_7 (zu_s _ _ _) rfl (by rfl) ?_
  refine zr_icmp_ge F 24 zd_XScene_clear_8 (by decide) (fun h => absurd h (by decide)) (fun _ => ?_)
  refine zr_aload_n F zd_XScene_clear_11 rfl ?_
  refine zr_get F 8 0 zd_XScene_clear_12 ((zu_n _ (by omega)).trans hf) rfl (by decide) zw_281 rfl (by rfl) ?_
  refine zr_iload_n F zd_XScene_clear_15 rfl ?_
  refine zr_iconstv (v := 0) F zd_XScene_clear_16 (by decide) ?_
  refine zr_iast F zd_XScene_clear_17 (zu_s _ _ _) (vp_in_nI (n := 0) (by decide) (by decide)) ?_
  refine zr_norm (zu f ac (.inl (tA 0, 5, .inl (zclr gc 1)))) n ((zu_zu _ _ _ _).trans (congrArg (fun g => zu f ac (.inl (tA 0, 5, .inl g))) (zclr_s gc 0))) rfl ?_
  refine zr_iinc (v := 1) F zd_XScene_clear_18 rfl (by decide) (by decide) ?_
  refine zr_loc (L' := [(0, .ref (b + a)), (1, .int 1)]) ⟨rfl, rfl, trivial⟩ ?_
  refine zr_goto F 2 zd_XScene_clear_21 (by decide) ?_
  refine zr_iload_n F zd_XScene_clear_2 rfl ?_
  refine zr_aload_n F zd_XScene_clear_3 rfl ?_
  refine zr_get F 8 0 zd_XScene_clear_4 ((zu_n _ (by omega)).trans hf) rfl (by decide) zw_281 rfl (by rfl) ?_
  refine zr_alen (v := 5) F 0 zd_XScene_clear_7 (zu_s _ _ _) rfl (by rfl) ?_
  refine zr_icmp_ge F 24 zd_XScene_clear_8 (by decide) (fun h => absurd h (by decide)) (fun _ => ?_)
  refine zr_aload_n F zd_XScene_clear_11 rfl ?_
  refine zr_get F 8 0 zd_XScene_clear_12 ((zu_n _ (by omega)).trans hf) rfl (by decide) zw_281 rfl (by rfl) ?_
  refine zr_iload_n F zd_XScene_clear_15 rfl ?_
  refine zr_iconstv (v := 0) F zd_XScene_clear_16 (by decide) ?_
  refine zr_iast F zd_XScene_clear_17 (zu_s _ _ _) (vp_in_nI (n := 1) (by decide) (by decide)) ?_
  refine zr_norm (zu f ac (.inl (tA 0, 5, .inl (zclr gc 2)))) n ((zu_zu _ _ _ _).trans (congrArg (fun g => zu f ac (.inl (tA 0, 5, .inl g))) (zclr_s gc 1))) rfl ?_
  refine zr_iinc (v := 2) F zd_XScene_clear_18 rfl (by decide) (by decide) ?_
  refine zr_loc (L' := [(0, .ref (b + a)), (1, .int 2)]) ⟨rfl, rfl, trivial⟩ ?_
  refine zr_goto F 2 zd_XScene_clear_21 (by decide) ?_
  refine zr_iload_n F zd_XScene_clear_2 rfl ?_
  refine zr_aload_n F zd_XScene_clear_3 rfl ?_
  refine zr_get F 8 0 zd_XScene_clear_4 ((zu_n _ (by omega)).trans hf) rfl (by decide) zw_281 rfl (by rfl) ?_
  refine zr_alen (v := 5) F 0 zd_XScene_clear_7 (zu_s _ _ _) rfl (by rfl) ?_
  refine zr_icmp_ge F 24 zd_XScene_clear_8 (by decide) (fun h => absurd h (by decide)) (fun _ => ?_)
  refine zr_aload_n F zd_XScene_clear_11 rfl ?_
  refine zr_get F 8 0 zd_XScene_clear_12 ((zu_n _ (by omega)).trans hf) rfl (by decide) zw_281 rfl (by rfl) ?_
  refine zr_iload_n F zd_XScene_clear_15 rfl ?_
  refine zr_iconstv (v := 0) F zd_XScene_clear_16 (by decide) ?_
  refine zr_iast F zd_XScene_clear_17 (zu_s _ _ _) (vp_in_nI (n := 2) (by decide) (by decide)) ?_
  refine zr_norm (zu f ac (.inl (tA 0, 5, .inl (zclr gc 3)))) n ((zu_zu _ _ _ _).trans (congrArg (fun g => zu f ac (.inl (tA 0, 5, .inl g))) (zclr_s gc 2))) rfl ?_
  refine zr_iinc (v := 3) F zd_XScene_clear_18 rfl (by decide) (by decide) ?_
  refine zr_loc (L' := [(0, .ref (b + a)), (1, .int 3)]) ⟨rfl, rfl, trivial⟩ ?_
  refine zr_goto F 2 zd_XScene_clear_21 (by decide) ?_
  refine zr_iload_n F zd_XScene_clear_2 rfl ?_
  refine zr_aload_n F zd_XScene_clear_3 rfl ?_
  refine zr_get F 8 0 zd_XScene_clear_4 ((zu_n _ (by omega)).trans hf) rfl (by decide) zw_281 rfl (by rfl) ?_
  refine zr_alen (v := 5) F 0 zd_XScene_clear_7 (zu_s _ _ _) rfl (by rfl) ?_
  refine zr_icmp_ge F 24 zd_XScene_clear_8 (by decide) (fun h => absurd h (by decide)) (fun _ => ?_)
  refine zr_aload_n F zd_XScene_clear_11 rfl ?_
  refine zr_get F 8 0 zd_XScene_clear_12 ((zu_n _ (by omega)).trans hf) rfl (by decide) zw_281 rfl (by rfl) ?_
  refine zr_iload_n F zd_XScene_clear_15 rfl ?_
  refine zr_iconstv (v := 0) F zd_XScene_clear_16 (by decide) ?_
  refine zr_iast F zd_XScene_clear_17 (zu_s _ _ _) (vp_in_nI (n := 3) (by decide) (by decide)) ?_
  refine zr_norm (zu f ac (.inl (tA 0, 5, .inl (zclr gc 4)))) n ((zu_zu _ _ _ _).trans (congrArg (fun g => zu f ac (.inl (tA 0, 5, .inl g))) (zclr_s gc 3))) rfl ?_
  refine zr_iinc (v := 4) F zd_XScene_clear_18 rfl (by decide) (by decide) ?_
  refine zr_loc (L' := [(0, .ref (b + a)), (1, .int 4)]) ⟨rfl, rfl, trivial⟩ ?_
  refine zr_goto F 2 zd_XScene_clear_21 (by decide) ?_
  refine zr_iload_n F zd_XScene_clear_2 rfl ?_
  refine zr_aload_n F zd_XScene_clear_3 rfl ?_
  refine zr_get F 8 0 zd_XScene_clear_4 ((zu_n _ (by omega)).trans hf) rfl (by decide) zw_281 rfl (by rfl) ?_
  refine zr_alen (v := 5) F 0 zd_XScene_clear_7 (zu_s _ _ _) rfl (by rfl) ?_
  refine zr_icmp_ge F 24 zd_XScene_clear_8 (by decide) (fun h => absurd h (by decide)) (fun _ => ?_)
  refine zr_aload_n F zd_XScene_clear_11 rfl ?_
  refine zr_get F 8 0 zd_XScene_clear_12 ((zu_n _ (by omega)).trans hf) rfl (by decide) zw_281 rfl (by rfl) ?_
  refine zr_iload_n F zd_XScene_clear_15 rfl ?_
  refine zr_iconstv (v := 0) F zd_XScene_clear_16 (by decide) ?_
  refine zr_iast F zd_XScene_clear_17 (zu_s _ _ _) (vp_in_nI (n := 4) (by decide) (by decide)) ?_
  refine zr_norm (zu f ac (.inl (tA 0, 5, .inl (zclr gc 5)))) n ((zu_zu _ _ _ _).trans (congrArg (fun g => zu f ac (.inl (tA 0, 5, .inl g))) (zclr_s gc 4))) rfl ?_
  refine zr_iinc (v := 5) F zd_XScene_clear_18 rfl (by decide) (by decide) ?_
  refine zr_loc (L' := [(0, .ref (b + a)), (1, .int 5)]) ⟨rfl, rfl, trivial⟩ ?_
  refine zr_goto F 2 zd_XScene_clear_21 (by decide) ?_
  refine zr_iload_n F zd_XScene_clear_2 rfl ?_
  refine zr_aload_n F zd_XScene_clear_3 rfl ?_
  refine zr_get F 8 0 zd_XScene_clear_4 ((zu_n _ (by omega)).trans hf) rfl (by decide) zw_281 rfl (by rfl) ?_
  refine zr_alen (v := 5) F 0 zd_XScene_clear_7 (zu_s _ _ _) rfl (by rfl) ?_
  refine zr_icmp_ge F 24 zd_XScene_clear_8 (by decide) (fun _ => ?_) (fun h => absurd (by decide) h)
  refine zr_norm (zu (zu f ac (.inl (tA 0, 5, .inl (zclr gc 5)))) av (.inl (tA 0, 7, .inl (zclr gv 0)))) n (by rw [zclr_0]; exact zu_id ((zu_n _ (by omega)).trans hv)) rfl ?_
  refine zr_iconstv (v := 0) F zd_XScene_clear_24 (by decide) ?_
  refine zr_istore_n F zd_XScene_clear_25 (by decide) ?_
  refine zr_loc (L' := [(0, .ref (b + a)), (1, .int 0)]) ⟨rfl, rfl, trivial⟩ ?_
  refine zr_iload_n F zd_XScene_clear_26 rfl ?_
  refine zr_bipushv (v := 6) F zd_XScene_clear_27 (by decide) ?_
  refine zr_icmp_ge F 45 zd_XScene_clear_29 (by decide) (fun h => absurd h (by decide)) (fun _ => ?_)
  refine zr_aload_n F zd_XScene_clear_32 rfl ?_
  refine zr_get F 8 6 zd_XScene_clear_33 ((zu_n _ (by omega)).trans ((zu_n _ (by omega)).trans hf)) rfl (by decide) zw_301 rfl (by rfl) ?_
  refine zr_iload_n F zd_XScene_clear_36 rfl ?_
  refine zr_iconstv (v := 0) F zd_XScene_clear_37 (by decide) ?_
  refine zr_iast F zd_XScene_clear_38 (zu_s _ _ _) (vp_in_nI (n := 0) (by decide) (by decide)) ?_
  refine zr_norm (zu (zu f ac (.inl (tA 0, 5, .inl (zclr gc 5)))) av (.inl (tA 0, 7, .inl (zclr gv 1)))) n ((zu_zu _ _ _ _).trans (congrArg (fun g => zu (zu f ac (.inl (tA 0, 5, .inl (zclr gc 5)))) av (.inl (tA 0, 7, .inl g))) (zclr_s gv 0))) rfl ?_
  refine zr_iinc (v := 1) F zd_XScene_clear_39 rfl (by decide) (by decide) ?_
  refine zr_loc (L' := [(0, .ref (b + a)), (1, .int 1)]) ⟨rfl, rfl, trivial⟩ ?_
  refine zr_goto F 26 zd_XScene_clear_42 (by decide) ?_
  refine zr_iload_n F zd_XScene_clear_26 rfl ?_
  refine zr_bipushv (v := 6) F zd_XScene_clear_27 (by decide) ?_
  refine zr_icmp_ge F 45 zd_XScene_clear_29 (by decide) (fun h => absurd h (by decide)) (fun _ => ?_)
  refine zr_aload_n F zd_XScene_clear_32 rfl ?_
  refine zr_get F 8 6 zd_XScene_clear_33 ((zu_n _ (by omega)).trans ((zu_n _ (by omega)).trans hf)) rfl (by decide) zw_301 rfl (by rfl) ?_
  refine zr_iload_n F zd_XScene_clear_36 rfl ?_
  refine zr_iconstv (v := 0) F zd_XScene_clear_37 (by decide) ?_
  refine zr_iast F zd_XScene_clear_38 (zu_s _ _ _) (vp_in_nI (n := 1) (by decide) (by decide)) ?_
  refine zr_norm (zu (zu f ac (.inl (tA 0, 5, .inl (zclr gc 5)))) av (.inl (tA 0, 7, .inl (zclr gv 2)))) n ((zu_zu _ _ _ _).trans (congrArg (fun g => zu (zu f ac (.inl (tA 0, 5, .inl (zclr gc 5)))) av (.inl (tA 0, 7, .inl g))) (zclr_s gv 1))) rfl ?_
  refine zr_iinc (v := 2) F zd_XScene_clear_39 rfl (by decide) (by decide) ?_
  refine zr_loc (L' := [(0, .ref (b + a)), (1, .int 2)]) ⟨rfl, rfl, trivial⟩ ?_
  refine zr_goto F 26 zd_XScene_clear_42 (by decide) ?_
  refine zr_iload_n F zd_XScene_clear_26 rfl ?_
  refine zr_bipushv (v := 6) F zd_XScene_clear_27 (by decide) ?_
  refine zr_icmp_ge F 45 zd_XScene_clear_29 (by decide) (fun h => absurd h (by decide)) (fun _ => ?_)
  refine zr_aload_n F zd_XScene_clear_32 rfl ?_
  refine zr_get F 8 6 zd_XScene_clear_33 ((zu_n _ (by omega)).trans ((zu_n _ (by omega)).trans hf)) rfl (by decide) zw_301 rfl (by rfl) ?_
  refine zr_iload_n F zd_XScene_clear_36 rfl ?_
  refine zr_iconstv (v := 0) F zd_XScene_clear_37 (by decide) ?_
  refine zr_iast F zd_XScene_clear_38 (zu_s _ _ _) (vp_in_nI (n := 2) (by decide) (by decide)) ?_
  refine zr_norm (zu (zu f ac (.inl (tA 0, 5, .inl (zclr gc 5)))) av (.inl (tA 0, 7, .inl (zclr gv 3)))) n ((zu_zu _ _ _ _).trans (congrArg (fun g => zu (zu f ac (.inl (tA 0, 5, .inl (zclr gc 5)))) av (.inl (tA 0, 7, .inl g))) (zclr_s gv 2))) rfl ?_
  refine zr_iinc (v := 3) F zd_XScene_clear_39 rfl (by decide) (by decide) ?_
  refine zr_loc (L' := [(0, .ref (b + a)), (1, .int 3)]) ⟨rfl, rfl, trivial⟩ ?_
  refine zr_goto F 26 zd_XScene_clear_42 (by decide) ?_
  refine zr_iload_n F zd_XScene_clear_26 rfl ?_
  refine zr_bipushv (v := 6) F zd_XScene_clear_27 (by decide) ?_
  refine zr_icmp_ge F 45 zd_XScene_clear_29 (by decide) (fun h => absurd h (by decide)) (fun _ => ?_)
  refine zr_aload_n F zd_XScene_clear_32 rfl ?_
  refine zr_get F 8 6 zd_XScene_clear_33 ((zu_n _ (by omega)).trans ((zu_n _ (by omega)).trans hf)) rfl (by decide) zw_301 rfl (by rfl) ?_
  refine zr_iload_n F zd_XScene_clear_36 rfl ?_
  refine zr_iconstv (v := 0) F zd_XScene_clear_37 (by decide) ?_
  refine zr_iast F zd_XScene_clear_38 (zu_s _ _ _) (vp_in_nI (n := 3) (by decide) (by decide)) ?_
  refine zr_norm (zu (zu f ac (.inl (tA 0, 5, .inl (zclr gc 5)))) av (.inl (tA 0, 7, .inl (zclr gv 4)))) n ((zu_zu _ _ _ _).trans (congrArg (fun g => zu (zu f ac (.inl (tA 0, 5, .inl (zclr gc 5)))) av (.inl (tA 0, 7, .inl g))) (zclr_s gv 3))) rfl ?_
  refine zr_iinc (v := 4) F zd_XScene_clear_39 rfl (by decide) (by decide) ?_
  refine zr_loc (L' := [(0, .ref (b + a)), (1, .int 4)]) ⟨rfl, rfl, trivial⟩ ?_
  refine zr_goto F 26 zd_XScene_clear_42 (by decide) ?_
  refine zr_iload_n F zd_XScene_clear_26 rfl ?_
  refine zr_bipushv (v := 6) F zd_XScene_clear_27 (by decide) ?_
  refine zr_icmp_ge F 45 zd_XScene_clear_29 (by decide) (fun h => absurd h (by decide)) (fun _ => ?_)
  refine zr_aload_n F zd_XScene_clear_32 rfl ?_
  refine zr_get F 8 6 zd_XScene_clear_33 ((zu_n _ (by omega)).trans ((zu_n _ (by omega)).trans hf)) rfl (by decide) zw_301 rfl (by rfl) ?_
  refine zr_iload_n F zd_XScene_clear_36 rfl ?_
  refine zr_iconstv (v := 0) F zd_XScene_clear_37 (by decide) ?_
  refine zr_iast F zd_XScene_clear_38 (zu_s _ _ _) (vp_in_nI (n := 4) (by decide) (by decide)) ?_
  refine zr_norm (zu (zu f ac (.inl (tA 0, 5, .inl (zclr gc 5)))) av (.inl (tA 0, 7, .inl (zclr gv 5)))) n ((zu_zu _ _ _ _).trans (congrArg (fun g => zu (zu f ac (.inl (tA 0, 5, .inl (zclr gc 5)))) av (.inl (tA 0, 7, .inl g))) (zclr_s gv 4))) rfl ?_
  refine zr_iinc (v := 5) F zd_XScene_clear_39 rfl (by decide) (by decide) ?_
  refine zr_loc (L' := [(0, .ref (b + a)), (1, .int 5)]) ⟨rfl, rfl, trivial⟩ ?_
  refine zr_goto F 26 zd_XScene_clear_42 (by decide) ?_
  refine zr_iload_n F zd_XScene_clear_26 rfl ?_
  refine zr_bipushv (v := 6) F zd_XScene_clear_27 (by decide) ?_
  refine zr_icmp_ge F 45 zd_XScene_clear_29 (by decide) (fun h => absurd h (by decide)) (fun _ => ?_)
  refine zr_aload_n F zd_XScene_clear_32 rfl ?_
  refine zr_get F 8 6 zd_XScene_clear_33 ((zu_n _ (by omega)).trans ((zu_n _ (by omega)).trans hf)) rfl (by decide) zw_301 rfl (by rfl) ?_
  refine zr_iload_n F zd_XScene_clear_36 rfl ?_
  refine zr_iconstv (v := 0) F zd_XScene_clear_37 (by decide) ?_
  refine zr_iast F zd_XScene_clear_38 (zu_s _ _ _) (vp_in_nI (n := 5) (by decide) (by decide)) ?_
  refine zr_norm (zu (zu f ac (.inl (tA 0, 5, .inl (zclr gc 5)))) av (.inl (tA 0, 7, .inl (zclr gv 6)))) n ((zu_zu _ _ _ _).trans (congrArg (fun g => zu (zu f ac (.inl (tA 0, 5, .inl (zclr gc 5)))) av (.inl (tA 0, 7, .inl g))) (zclr_s gv 5))) rfl ?_
  refine zr_iinc (v := 6) F zd_XScene_clear_39 rfl (by decide) (by decide) ?_
  refine zr_loc (L' := [(0, .ref (b + a)), (1, .int 6)]) ⟨rfl, rfl, trivial⟩ ?_
  refine zr_goto F 26 zd_XScene_clear_42 (by decide) ?_
  refine zr_iload_n F zd_XScene_clear_26 rfl ?_
  refine zr_bipushv (v := 6) F zd_XScene_clear_27 (by decide) ?_
  refine zr_icmp_ge F 45 zd_XScene_clear_29 (by decide) (fun _ => ?_) (fun h => absurd (by decide) h)
  refine zr_aload_n F zd_XScene_clear_45 rfl ?_
  refine zr_get F 8 6 zd_XScene_clear_46 ((zu_n _ (by omega)).trans ((zu_n _ (by omega)).trans hf)) rfl (by decide) zw_301 rfl (by rfl) ?_
  refine zr_bipushv (v := 6) F zd_XScene_clear_49 (by decide) ?_
  refine zr_bipushv (v := 32) F zd_XScene_clear_51 (by decide) ?_
  refine zr_iast F zd_XScene_clear_53 (zu_s _ _ _) (vp_in_nI (n := 6) (by decide) (by decide)) ?_
  refine zr_norm (zu (zu f ac (.inl (tA 0, 5, .inl (zclr gc 5)))) av (.inl (tA 0, 7, .inl (zview gv)))) n (zu_zu _ _ _ _) rfl ?_
  refine zr_aload_n F zd_XScene_clear_54 rfl ?_
  refine zr_get F 8 7 zd_XScene_clear_55 ((zu_n _ (by omega)).trans ((zu_n _ (by omega)).trans hf)) rfl (by decide) zw_305 rfl (by rfl) ?_
  refine zr_iconstv (v := 0) F zd_XScene_clear_58 (by decide) ?_
  refine zr_iconstv (v := 0) F zd_XScene_clear_59 (by decide) ?_
  refine zr_iast F zd_XScene_clear_60 ((zu_n _ (by omega)).trans ((zu_n _ (by omega)).trans hl)) (vp_in_nI (n := 0) (by decide) (by decide)) ?_
  refine zr_aload_n F zd_XScene_clear_61 rfl ?_
  refine zr_get F 8 7 zd_XScene_clear_62 ((zu_n _ (by omega)).trans ((zu_n _ (by omega)).trans ((zu_n _ (by omega)).trans hf))) rfl (by decide) zw_305 rfl (by rfl) ?_
  refine zr_iconstv (v := 1) F zd_XScene_clear_65 (by decide) ?_
  refine zr_iconstv (v := 0) F zd_XScene_clear_66 (by decide) ?_
  refine zr_iast F zd_XScene_clear_67 (zu_s _ _ _) (vp_in_nI (n := 1) (by decide) (by decide)) ?_
  refine zr_norm _ n (zu_zu _ _ _ _) rfl ?_
  refine zr_aload_n F zd_XScene_clear_68 rfl ?_
  refine zr_get F 8 7 zd_XScene_clear_69 ((zu_n _ (by omega)).trans ((zu_n _ (by omega)).trans ((zu_n _ (by omega)).trans hf))) rfl (by decide) zw_305 rfl (by rfl) ?_
  refine zr_iconstv (v := 2) F zd_XScene_clear_72 (by decide) ?_
  refine zr_ldc F zd_XScene_clear_73 zw_280 ?_
  refine zr_iast F zd_XScene_clear_75 (zu_s _ _ _) (vp_in_nI (n := 2) (by decide) (by decide)) ?_
  refine zr_norm _ n (zu_zu _ _ _ _) rfl ?_
  refine zr_aload_n F zd_XScene_clear_76 rfl ?_
  refine zr_get F 8 7 zd_XScene_clear_77 ((zu_n _ (by omega)).trans ((zu_n _ (by omega)).trans ((zu_n _ (by omega)).trans hf))) rfl (by decide) zw_305 rfl (by rfl) ?_
  refine zr_iconstv (v := 3) F zd_XScene_clear_80 (by decide) ?_
  refine zr_sipushv (v := 16384) F zd_XScene_clear_81 (by decide) ?_
  refine zr_iast F zd_XScene_clear_84 (zu_s _ _ _) (vp_in_nI (n := 3) (by decide) (by decide)) ?_
  refine zr_norm _ n (zu_zu _ _ _ _) rfl ?_
  refine zr_norm (zu (zu (zu f ac (.inl (tA 0, 5, .inl (zclr gc 5)))) av (.inl (tA 0, 7, .inl (zview gv)))) al (.inl (tA 0, 4, .inl (zlamp gl)))) n rfl rfl ?_
  refine zr_aload_n F zd_XScene_clear_85 rfl ?_
  refine zr_iconstv (v := 0) F zd_XScene_clear_86 (by decide) ?_
  refine zr_put F 8 8 zd_XScene_clear_87 ((zu_n _ (by omega)).trans ((zu_n _ (by omega)).trans ((zu_n _ (by omega)).trans hf))) rfl (by decide) zw_309 rfl rfl rfl rfl (by exact (Nat.le_of_ble_eq_true rfl)) ?_
  refine zr_aload_n F zd_XScene_clear_90 rfl ?_
  refine zr_iconstv (v := 0) F zd_XScene_clear_91 (by decide) ?_
  refine zr_put F 8 9 zd_XScene_clear_92 (zu_s _ _ _) rfl (by decide) zw_311 rfl rfl rfl rfl (by exact (Nat.le_of_ble_eq_true rfl)) ?_
  exact zr_vret F hr zd_XScene_clear_95 (Nat.le_of_ble_eq_true rfl) (Nat.le_of_ble_eq_true rfl) ⟨rfl, zu_zu _ _ _ _, rfl⟩
