abbrev zb_XMesh_init : ByteArray := prog_3_method_1_code
def zy_XMesh_init : MethodName := ⟨"OrreryBox$Mesh", "<init>", "()V"⟩
theorem zc_XMesh_init : Cond.code zy_XMesh_init zb_XMesh_init 1 none ∈ gw := gw_t 173 (by decide +kernel) rfl
theorem zq_XMesh_init : zy_XMesh_init.cls ≠ "java/lang/invoke/MethodHandle" ∧ zy_XMesh_init.cls ≠ "java/lang/invoke/VarHandle" ∧ (parseMethodDescriptor zy_XMesh_init.desc).map (fun d => d.parameters.length) = some 0 := by decide +kernel
theorem zd_XMesh_init_0 : decode zb_XMesh_init 0 = .ok (.aload_n 0, 1) := by decide +kernel
theorem zd_XMesh_init_1 : decode zb_XMesh_init 1 = .ok (.invokespecial 3, 3) := by decide +kernel
theorem zd_XMesh_init_4 : decode zb_XMesh_init 4 = .ok (.aload_n 0, 1) := by decide +kernel
theorem zd_XMesh_init_5 : decode zb_XMesh_init 5 = .ok (.sipush 384, 3) := by decide +kernel
theorem zd_XMesh_init_8 : decode zb_XMesh_init 8 = .ok (.newarray .int, 2) := by decide +kernel
theorem zd_XMesh_init_10 : decode zb_XMesh_init 10 = .ok (.putfield 9, 3) := by decide +kernel
theorem zd_XMesh_init_13 : decode zb_XMesh_init 13 = .ok (.aload_n 0, 1) := by decide +kernel
theorem zd_XMesh_init_14 : decode zb_XMesh_init 14 = .ok (.sipush 384, 3) := by decide +kernel
theorem zd_XMesh_init_17 : decode zb_XMesh_init 17 = .ok (.newarray .int, 2) := by decide +kernel
theorem zd_XMesh_init_19 : decode zb_XMesh_init 19 = .ok (.putfield 15, 3) := by decide +kernel
theorem zd_XMesh_init_22 : decode zb_XMesh_init 22 = .ok (.aload_n 0, 1) := by decide +kernel
theorem zd_XMesh_init_23 : decode zb_XMesh_init 23 = .ok (.sipush 256, 3) := by decide +kernel
theorem zd_XMesh_init_26 : decode zb_XMesh_init 26 = .ok (.newarray .int, 2) := by decide +kernel
theorem zd_XMesh_init_28 : decode zb_XMesh_init 28 = .ok (.putfield 18, 3) := by decide +kernel
theorem zd_XMesh_init_31 : decode zb_XMesh_init 31 = .ok (.aload_n 0, 1) := by decide +kernel
theorem zd_XMesh_init_32 : decode zb_XMesh_init 32 = .ok (.sipush 384, 3) := by decide +kernel
theorem zd_XMesh_init_35 : decode zb_XMesh_init 35 = .ok (.newarray .int, 2) := by decide +kernel
theorem zd_XMesh_init_37 : decode zb_XMesh_init 37 = .ok (.putfield 21, 3) := by decide +kernel
theorem zd_XMesh_init_40 : decode zb_XMesh_init 40 = .ok (.return_, 1) := by decide +kernel
theorem zdef_XMesh : ∀ j, j < 7 → defaultValue (zk_ty 2 j) = vp_V [.int 0, .int 0, .int 0, .null, .null, .null, .null] j := by
  intro j hj
  match j, hj with
  | 0, _ => rfl
  | 1, _ => rfl
  | 2, _ => rfl
  | 3, _ => rfl
  | 4, _ => rfl
  | 5, _ => rfl
  | 6, _ => rfl
  | k + 7, h => exact absurd h (by omega)
theorem zw_174 : (Jvm.Cond.methodLink "OrreryBox$Mesh" (3 : Nat) ({ cls := "java/lang/Object", name := "<init>", desc := "()V" } : Jvm.MethodName)) ∈ gw := gw_t 174 (by decide +kernel) rfl
theorem zw_35 : (Jvm.Cond.instanceMethod ({ cls := "java/lang/Object", name := "<init>", desc := "()V" } : Jvm.MethodName)) ∈ gw := gw_t 35 (by decide +kernel) rfl
theorem zw_36 : (Jvm.Cond.code ({ cls := "java/lang/Object", name := "<init>", desc := "()V" } : Jvm.MethodName) object_method_1_code (1 : Nat) (Option.none : Option Jvm.ClassFile.FieldType)) ∈ gw := gw_t 36 (by decide +kernel) rfl
theorem zw_74 : (Jvm.Cond.arrayClass Jvm.ClassFile.FieldType.int) ∈ gw := gw_t 74 (by decide +kernel) rfl
theorem zw_182 : (Jvm.Cond.fieldLink "OrreryBox$Mesh" (9 : Nat) "OrreryBox$Mesh" "points" "[I") ∈ gw := gw_t 182 (by decide +kernel) rfl
theorem zw_185 : (Jvm.Cond.fieldLink "OrreryBox$Mesh" (15 : Nat) "OrreryBox$Mesh" "normals" "[I") ∈ gw := gw_t 185 (by decide +kernel) rfl
theorem zw_188 : (Jvm.Cond.fieldLink "OrreryBox$Mesh" (18 : Nat) "OrreryBox$Mesh" "places" "[I") ∈ gw := gw_t 188 (by decide +kernel) rfl
theorem zw_191 : (Jvm.Cond.fieldLink "OrreryBox$Mesh" (21 : Nat) "OrreryBox$Mesh" "faces" "[I") ∈ gw := gw_t 191 (by decide +kernel) rfl
set_option maxHeartbeats 4000000 in
set_option maxRecDepth 100000 in
theorem c_XMesh_init (l : Launch) (D : va_G) (tA : Nat → ClassId) (b : Nat) (f : zV) (n : Nat) (k : Nat)  (hf : f k = some (.inr (2, [.int 0, .int 0, .int 0, .null, .null, .null, .null]))) : zM l D tA b zy_XMesh_init zb_XMesh_init 1 none 1 20 4 1408 [.ref (b + k)] f n (zE none (zu (zu (zu (zu (zu f (n) (.inl (tA 0, 384, .inl (fun _ => 0)))) (n + 1) (.inl (tA 0, 384, .inl (fun _ => 0)))) (n + 1 + 1) (.inl (tA 0, 256, .inl (fun _ => 0)))) (n + 1 + 1 + 1) (.inl (tA 0, 384, .inl (fun _ => 0)))) k (.inr (2, [.int 0, .int 0, .int 0, .ref (b + n), .ref (b + (n + 1)), .ref (b + (n + 1 + 1)), .ref (b + (n + 1 + 1 + 1))]))) (n + 1 + 1 + 1 + 1)) := by
  refine zM_of (own := "OrreryBox$Mesh") (plainFor_of_name (by decide)) rfl (Nat.le_of_ble_eq_true rfl) (fun p e s m below meth c F hr hin hH => ?_)
  have hk := hH.lt hf
  refine zr_aload_n F zd_XMesh_init_0 rfl ?_
  refine zr_objInit F zd_XMesh_init_1 zw_174 zw_35 zw_36 (Nat.le_of_ble_eq_true rfl) (Nat.le_of_ble_eq_true rfl) ?_
  refine zr_aload_n F zd_XMesh_init_4 rfl ?_
  refine zr_sipushv (v := 384) F zd_XMesh_init_5 (by decide) ?_
  refine zr_newa (N := 384) (a0 := (384, .inl (fun _ => 0))) F 0 zd_XMesh_init_8 rfl rfl zw_74 (fun _ => rfl) (by decide) (by decide) (Nat.le_of_ble_eq_true rfl) (Nat.le_of_ble_eq_true rfl) (Nat.le_of_ble_eq_true rfl) ?_
  refine zr_putF F 2 3 zd_XMesh_init_10 (by first | assumption | exact zu_s _ _ _ | exact (zu_n _ (by omega)).trans (by first | assumption | exact zu_s _ _ _ | exact (zu_n _ (by omega)).trans (by first | assumption | exact zu_s _ _ _ | exact (zu_n _ (by omega)).trans (by first | assumption | exact zu_s _ _ _ | exact (zu_n _ (by omega)).trans (by first | assumption | exact zu_s _ _ _ | exact (zu_n _ (by omega)).trans (by first | assumption | exact zu_s _ _ _ | exact (zu_n _ (by omega)).trans (by first | assumption | exact zu_s _ _ _ | exact (zu_n _ (by omega)).trans (by first | assumption | exact zu_s _ _ _)))))))) rfl (by decide) zw_182 rfl rfl hin rfl rfl rfl (by exact (Nat.le_of_ble_eq_true rfl)) ?_
  refine zr_aload_n F zd_XMesh_init_13 rfl ?_
  refine zr_sipushv (v := 384) F zd_XMesh_init_14 (by decide) ?_
  refine zr_newa (N := 384) (a0 := (384, .inl (fun _ => 0))) F 0 zd_XMesh_init_17 rfl rfl zw_74 (fun _ => rfl) (by decide) (by decide) (Nat.le_of_ble_eq_true rfl) (Nat.le_of_ble_eq_true rfl) (Nat.le_of_ble_eq_true rfl) ?_
  refine zr_putF F 2 4 zd_XMesh_init_19 (by first | assumption | exact zu_s _ _ _ | exact (zu_n _ (by omega)).trans (by first | assumption | exact zu_s _ _ _ | exact (zu_n _ (by omega)).trans (by first | assumption | exact zu_s _ _ _ | exact (zu_n _ (by omega)).trans (by first | assumption | exact zu_s _ _ _ | exact (zu_n _ (by omega)).trans (by first | assumption | exact zu_s _ _ _ | exact (zu_n _ (by omega)).trans (by first | assumption | exact zu_s _ _ _ | exact (zu_n _ (by omega)).trans (by first | assumption | exact zu_s _ _ _ | exact (zu_n _ (by omega)).trans (by first | assumption | exact zu_s _ _ _)))))))) rfl (by decide) zw_185 rfl rfl hin rfl rfl rfl (by exact (Nat.le_of_ble_eq_true rfl)) ?_
  refine zr_aload_n F zd_XMesh_init_22 rfl ?_
  refine zr_sipushv (v := 256) F zd_XMesh_init_23 (by decide) ?_
  refine zr_newa (N := 256) (a0 := (256, .inl (fun _ => 0))) F 0 zd_XMesh_init_26 rfl rfl zw_74 (fun _ => rfl) (by decide) (by decide) (Nat.le_of_ble_eq_true rfl) (Nat.le_of_ble_eq_true rfl) (Nat.le_of_ble_eq_true rfl) ?_
  refine zr_putF F 2 5 zd_XMesh_init_28 (by first | assumption | exact zu_s _ _ _ | exact (zu_n _ (by omega)).trans (by first | assumption | exact zu_s _ _ _ | exact (zu_n _ (by omega)).trans (by first | assumption | exact zu_s _ _ _ | exact (zu_n _ (by omega)).trans (by first | assumption | exact zu_s _ _ _ | exact (zu_n _ (by omega)).trans (by first | assumption | exact zu_s _ _ _ | exact (zu_n _ (by omega)).trans (by first | assumption | exact zu_s _ _ _ | exact (zu_n _ (by omega)).trans (by first | assumption | exact zu_s _ _ _ | exact (zu_n _ (by omega)).trans (by first | assumption | exact zu_s _ _ _)))))))) rfl (by decide) zw_188 rfl rfl hin rfl rfl rfl (by exact (Nat.le_of_ble_eq_true rfl)) ?_
  refine zr_aload_n F zd_XMesh_init_31 rfl ?_
  refine zr_sipushv (v := 384) F zd_XMesh_init_32 (by decide) ?_
  refine zr_newa (N := 384) (a0 := (384, .inl (fun _ => 0))) F 0 zd_XMesh_init_35 rfl rfl zw_74 (fun _ => rfl) (by decide) (by decide) (Nat.le_of_ble_eq_true rfl) (Nat.le_of_ble_eq_true rfl) (Nat.le_of_ble_eq_true rfl) ?_
  refine zr_putF F 2 6 zd_XMesh_init_37 (by first | assumption | exact zu_s _ _ _ | exact (zu_n _ (by omega)).trans (by first | assumption | exact zu_s _ _ _ | exact (zu_n _ (by omega)).trans (by first | assumption | exact zu_s _ _ _ | exact (zu_n _ (by omega)).trans (by first | assumption | exact zu_s _ _ _ | exact (zu_n _ (by omega)).trans (by first | assumption | exact zu_s _ _ _ | exact (zu_n _ (by omega)).trans (by first | assumption | exact zu_s _ _ _ | exact (zu_n _ (by omega)).trans (by first | assumption | exact zu_s _ _ _ | exact (zu_n _ (by omega)).trans (by first | assumption | exact zu_s _ _ _)))))))) rfl (by decide) zw_191 rfl rfl hin rfl rfl rfl (by exact (Nat.le_of_ble_eq_true rfl)) ?_
  exact zr_vret F hr zd_XMesh_init_40 (Nat.le_of_ble_eq_true rfl) (Nat.le_of_ble_eq_true rfl) ⟨rfl, by have h0 : k ≠ n := (by omega); have h1 : k ≠ n + 1 := (by omega); have h2 : k ≠ n + 1 + 1 := (by omega); have h3 : k ≠ n + 1 + 1 + 1 := (by omega); (try simp only [zu_swap h0, zu_swap h1, zu_swap h2, zu_swap h3, zu_zu]); rfl, rfl⟩
abbrev zb_XNode_init : ByteArray := prog_4_method_1_code
def zy_XNode_init : MethodName := ⟨"OrreryBox$Node", "<init>", "()V"⟩
theorem zc_XNode_init : Cond.code zy_XNode_init zb_XNode_init 1 none ∈ gw := gw_t 212 (by decide +kernel) rfl
theorem zq_XNode_init : zy_XNode_init.cls ≠ "java/lang/invoke/MethodHandle" ∧ zy_XNode_init.cls ≠ "java/lang/invoke/VarHandle" ∧ (parseMethodDescriptor zy_XNode_init.desc).map (fun d => d.parameters.length) = some 0 := by decide +kernel
theorem zd_XNode_init_0 : decode zb_XNode_init 0 = .ok (.aload_n 0, 1) := by decide +kernel
theorem zd_XNode_init_1 : decode zb_XNode_init 1 = .ok (.invokespecial 1, 3) := by decide +kernel
theorem zd_XNode_init_4 : decode zb_XNode_init 4 = .ok (.aload_n 0, 1) := by decide +kernel
theorem zd_XNode_init_5 : decode zb_XNode_init 5 = .ok (.bipush 9, 2) := by decide +kernel
theorem zd_XNode_init_7 : decode zb_XNode_init 7 = .ok (.newarray .int, 2) := by decide +kernel
theorem zd_XNode_init_9 : decode zb_XNode_init 9 = .ok (.putfield 7, 3) := by decide +kernel
theorem zd_XNode_init_12 : decode zb_XNode_init 12 = .ok (.aload_n 0, 1) := by decide +kernel
theorem zd_XNode_init_13 : decode zb_XNode_init 13 = .ok (.bipush 12, 2) := by decide +kernel
theorem zd_XNode_init_15 : decode zb_XNode_init 15 = .ok (.newarray .int, 2) := by decide +kernel
theorem zd_XNode_init_17 : decode zb_XNode_init 17 = .ok (.putfield 13, 3) := by decide +kernel
theorem zd_XNode_init_20 : decode zb_XNode_init 20 = .ok (.return_, 1) := by decide +kernel
theorem zdef_XNode : ∀ j, j < 6 → defaultValue (zk_ty 3 j) = vp_V [.int 0, .int 0, .int 0, .int 0, .null, .null] j := by
  intro j hj
  match j, hj with
  | 0, _ => rfl
  | 1, _ => rfl
  | 2, _ => rfl
  | 3, _ => rfl
  | 4, _ => rfl
  | 5, _ => rfl
  | k + 6, h => exact absurd h (by omega)
theorem zw_213 : (Jvm.Cond.methodLink "OrreryBox$Node" (1 : Nat) ({ cls := "java/lang/Object", name := "<init>", desc := "()V" } : Jvm.MethodName)) ∈ gw := gw_t 213 (by decide +kernel) rfl
theorem zw_225 : (Jvm.Cond.fieldLink "OrreryBox$Node" (7 : Nat) "OrreryBox$Node" "numbers" "[I") ∈ gw := gw_t 225 (by decide +kernel) rfl
theorem zw_229 : (Jvm.Cond.fieldLink "OrreryBox$Node" (13 : Nat) "OrreryBox$Node" "placing" "[I") ∈ gw := gw_t 229 (by decide +kernel) rfl
set_option maxHeartbeats 4000000 in
set_option maxRecDepth 100000 in
theorem c_XNode_init (l : Launch) (D : va_G) (tA : Nat → ClassId) (b : Nat) (f : zV) (n : Nat) (k : Nat)  (hf : f k = some (.inr (3, [.int 0, .int 0, .int 0, .int 0, .null, .null]))) : zM l D tA b zy_XNode_init zb_XNode_init 1 none 1 20 2 21 [.ref (b + k)] f n (zE none (zu (zu (zu f (n) (.inl (tA 0, 9, .inl (fun _ => 0)))) (n + 1) (.inl (tA 0, 12, .inl (fun _ => 0)))) k (.inr (3, [.int 0, .int 0, .int 0, .int 0, .ref (b + n), .ref (b + (n + 1))]))) (n + 1 + 1)) := by
  refine zM_of (own := "OrreryBox$Node") (plainFor_of_name (by decide)) rfl (Nat.le_of_ble_eq_true rfl) (fun p e s m below meth c F hr hin hH => ?_)
  have hk := hH.lt hf
  refine zr_aload_n F zd_XNode_init_0 rfl ?_
  refine zr_objInit F zd_XNode_init_1 zw_213 zw_35 zw_36 (Nat.le_of_ble_eq_true rfl) (Nat.le_of_ble_eq_true rfl) ?_
  refine zr_aload_n F zd_XNode_init_4 rfl ?_
  refine zr_bipushv (v := 9) F zd_XNode_init_5 (by decide) ?_
  refine zr_newa (N := 9) (a0 := (9, .inl (fun _ => 0))) F 0 zd_XNode_init_7 rfl rfl zw_74 (fun _ => rfl) (by decide) (by decide) (Nat.le_of_ble_eq_true rfl) (Nat.le_of_ble_eq_true rfl) (Nat.le_of_ble_eq_true rfl) ?_
  refine zr_putF F 3 4 zd_XNode_init_9 (by first | assumption | exact zu_s _ _ _ | exact (zu_n _ (by omega)).trans (by first | assumption | exact zu_s _ _ _ | exact (zu_n _ (by omega)).trans (by first | assumption | exact zu_s _ _ _ | exact (zu_n _ (by omega)).trans (by first | assumption | exact zu_s _ _ _ | exact (zu_n _ (by omega)).trans (by first | assumption | exact zu_s _ _ _ | exact (zu_n _ (by omega)).trans (by first | assumption | exact zu_s _ _ _ | exact (zu_n _ (by omega)).trans (by first | assumption | exact zu_s _ _ _ | exact (zu_n _ (by omega)).trans (by first | assumption | exact zu_s _ _ _)))))))) rfl (by decide) zw_225 rfl rfl hin rfl rfl rfl (by exact (Nat.le_of_ble_eq_true rfl)) ?_
  refine zr_aload_n F zd_XNode_init_12 rfl ?_
  refine zr_bipushv (v := 12) F zd_XNode_init_13 (by decide) ?_
  refine zr_newa (N := 12) (a0 := (12, .inl (fun _ => 0))) F 0 zd_XNode_init_15 rfl rfl zw_74 (fun _ => rfl) (by decide) (by decide) (Nat.le_of_ble_eq_true rfl) (Nat.le_of_ble_eq_true rfl) (Nat.le_of_ble_eq_true rfl) ?_
  refine zr_putF F 3 5 zd_XNode_init_17 (by first | assumption | exact zu_s _ _ _ | exact (zu_n _ (by omega)).trans (by first | assumption | exact zu_s _ _ _ | exact (zu_n _ (by omega)).trans (by first | assumption | exact zu_s _ _ _ | exact (zu_n _ (by omega)).trans (by first | assumption | exact zu_s _ _ _ | exact (zu_n _ (by omega)).trans (by first | assumption | exact zu_s _ _ _ | exact (zu_n _ (by omega)).trans (by first | assumption | exact zu_s _ _ _ | exact (zu_n _ (by omega)).trans (by first | assumption | exact zu_s _ _ _ | exact (zu_n _ (by omega)).trans (by first | assumption | exact zu_s _ _ _)))))))) rfl (by decide) zw_229 rfl rfl hin rfl rfl rfl (by exact (Nat.le_of_ble_eq_true rfl)) ?_
  exact zr_vret F hr zd_XNode_init_20 (Nat.le_of_ble_eq_true rfl) (Nat.le_of_ble_eq_true rfl) ⟨rfl, by have h0 : k ≠ n := (by omega); have h1 : k ≠ n + 1 := (by omega); (try simp only [zu_swap h0, zu_swap h1, zu_zu]); rfl, rfl⟩
abbrev zb_XTexture_init : ByteArray := prog_11_method_1_code
def zy_XTexture_init : MethodName := ⟨"OrreryBox$Texture", "<init>", "()V"⟩
theorem zc_XTexture_init : Cond.code zy_XTexture_init zb_XTexture_init 1 none ∈ gw := gw_t 146 (by decide +kernel) rfl
theorem zq_XTexture_init : zy_XTexture_init.cls ≠ "java/lang/invoke/MethodHandle" ∧ zy_XTexture_init.cls ≠ "java/lang/invoke/VarHandle" ∧ (parseMethodDescriptor zy_XTexture_init.desc).map (fun d => d.parameters.length) = some 0 := by decide +kernel
theorem zd_XTexture_init_0 : decode zb_XTexture_init 0 = .ok (.aload_n 0, 1) := by decide +kernel
theorem zd_XTexture_init_1 : decode zb_XTexture_init 1 = .ok (.invokespecial 1, 3) := by decide +kernel
theorem zd_XTexture_init_4 : decode zb_XTexture_init 4 = .ok (.aload_n 0, 1) := by decide +kernel
theorem zd_XTexture_init_5 : decode zb_XTexture_init 5 = .ok (.sipush 1365, 3) := by decide +kernel
theorem zd_XTexture_init_8 : decode zb_XTexture_init 8 = .ok (.newarray .int, 2) := by decide +kernel
theorem zd_XTexture_init_10 : decode zb_XTexture_init 10 = .ok (.putfield 7, 3) := by decide +kernel
theorem zd_XTexture_init_13 : decode zb_XTexture_init 13 = .ok (.aload_n 0, 1) := by decide +kernel
theorem zd_XTexture_init_14 : decode zb_XTexture_init 14 = .ok (.bipush 6, 2) := by decide +kernel
theorem zd_XTexture_init_16 : decode zb_XTexture_init 16 = .ok (.newarray .int, 2) := by decide +kernel
theorem zd_XTexture_init_18 : decode zb_XTexture_init 18 = .ok (.putfield 13, 3) := by decide +kernel
theorem zd_XTexture_init_21 : decode zb_XTexture_init 21 = .ok (.return_, 1) := by decide +kernel
theorem zdef_XTexture : ∀ j, j < 6 → defaultValue (zk_ty 10 j) = vp_V [.int 0, .int 0, .int 0, .int 0, .null, .null] j := by
  intro j hj
  match j, hj with
  | 0, _ => rfl
  | 1, _ => rfl
  | 2, _ => rfl
  | 3, _ => rfl
  | 4, _ => rfl
  | 5, _ => rfl
  | k + 6, h => exact absurd h (by omega)
theorem zw_147 : (Jvm.Cond.methodLink "OrreryBox$Texture" (1 : Nat) ({ cls := "java/lang/Object", name := "<init>", desc := "()V" } : Jvm.MethodName)) ∈ gw := gw_t 147 (by decide +kernel) rfl
theorem zw_155 : (Jvm.Cond.fieldLink "OrreryBox$Texture" (7 : Nat) "OrreryBox$Texture" "texels" "[I") ∈ gw := gw_t 155 (by decide +kernel) rfl
theorem zw_156 : (Jvm.Cond.fieldLink "OrreryBox$Texture" (13 : Nat) "OrreryBox$Texture" "starts" "[I") ∈ gw := gw_t 156 (by decide +kernel) rfl
set_option maxHeartbeats 4000000 in
set_option maxRecDepth 100000 in
theorem c_XTexture_init (l : Launch) (D : va_G) (tA : Nat → ClassId) (b : Nat) (f : zV) (n : Nat) (k : Nat)  (hf : f k = some (.inr (10, [.int 0, .int 0, .int 0, .int 0, .null, .null]))) : zM l D tA b zy_XTexture_init zb_XTexture_init 1 none 1 20 2 1371 [.ref (b + k)] f n (zE none (zu (zu (zu f (n) (.inl (tA 0, 1365, .inl (fun _ => 0)))) (n + 1) (.inl (tA 0, 6, .inl (fun _ => 0)))) k (.inr (10, [.int 0, .int 0, .int 0, .int 0, .ref (b + n), .ref (b + (n + 1))]))) (n + 1 + 1)) := by
  refine zM_of (own := "OrreryBox$Texture") (plainFor_of_name (by decide)) rfl (Nat.le_of_ble_eq_true rfl) (fun p e s m below meth c F hr hin hH => ?_)
  have hk := hH.lt hf
  refine zr_aload_n F zd_XTexture_init_0 rfl ?_
  refine zr_objInit F zd_XTexture_init_1 zw_147 zw_35 zw_36 (Nat.le_of_ble_eq_true rfl) (Nat.le_of_ble_eq_true rfl) ?_
  refine zr_aload_n F zd_XTexture_init_4 rfl ?_
  refine zr_sipushv (v := 1365) F zd_XTexture_init_5 (by decide) ?_
  refine zr_newa (N := 1365) (a0 := (1365, .inl (fun _ => 0))) F 0 zd_XTexture_init_8 rfl rfl zw_74 (fun _ => rfl) (by decide) (by decide) (Nat.le_of_ble_eq_true rfl) (Nat.le_of_ble_eq_true rfl) (Nat.le_of_ble_eq_true rfl) ?_
  refine zr_putF F 10 4 zd_XTexture_init_10 (by first | assumption | exact zu_s _ _ _ | exact (zu_n _ (by omega)).trans (by first | assumption | exact zu_s _ _ _ | exact (zu_n _ (by omega)).trans (by first | assumption | exact zu_s _ _ _ | exact (zu_n _ (by omega)).trans (by first | assumption | exact zu_s _ _ _ | exact (zu_n _ (by omega)).trans (by first | assumption | exact zu_s _ _ _ | exact (zu_n _ (by omega)).trans (by first | assumption | exact zu_s _ _ _ | exact (zu_n _ (by omega)).trans (by first | assumption | exact zu_s _ _ _ | exact (zu_n _ (by omega)).trans (by first | assumption | exact zu_s _ _ _)))))))) rfl (by decide) zw_155 rfl rfl hin rfl rfl rfl (by exact (Nat.le_of_ble_eq_true rfl)) ?_
  refine zr_aload_n F zd_XTexture_init_13 rfl ?_
  refine zr_bipushv (v := 6) F zd_XTexture_init_14 (by decide) ?_
  refine zr_newa (N := 6) (a0 := (6, .inl (fun _ => 0))) F 0 zd_XTexture_init_16 rfl rfl zw_74 (fun _ => rfl) (by decide) (by decide) (Nat.le_of_ble_eq_true rfl) (Nat.le_of_ble_eq_true rfl) (Nat.le_of_ble_eq_true rfl) ?_
  refine zr_putF F 10 5 zd_XTexture_init_18 (by first | assumption | exact zu_s _ _ _ | exact (zu_n _ (by omega)).trans (by first | assumption | exact zu_s _ _ _ | exact (zu_n _ (by omega)).trans (by first | assumption | exact zu_s _ _ _ | exact (zu_n _ (by omega)).trans (by first | assumption | exact zu_s _ _ _ | exact (zu_n _ (by omega)).trans (by first | assumption | exact zu_s _ _ _ | exact (zu_n _ (by omega)).trans (by first | assumption | exact zu_s _ _ _ | exact (zu_n _ (by omega)).trans (by first | assumption | exact zu_s _ _ _ | exact (zu_n _ (by omega)).trans (by first | assumption | exact zu_s _ _ _)))))))) rfl (by decide) zw_156 rfl rfl hin rfl rfl rfl (by exact (Nat.le_of_ble_eq_true rfl)) ?_
  exact zr_vret F hr zd_XTexture_init_21 (Nat.le_of_ble_eq_true rfl) (Nat.le_of_ble_eq_true rfl) ⟨rfl, by have h0 : k ≠ n := (by omega); have h1 : k ≠ n + 1 := (by omega); (try simp only [zu_swap h0, zu_swap h1, zu_zu]); rfl, rfl⟩
abbrev zb_XTrack_init : ByteArray := prog_12_method_1_code
def zy_XTrack_init : MethodName := ⟨"OrreryBox$Track", "<init>", "()V"⟩
theorem zc_XTrack_init : Cond.code zy_XTrack_init zb_XTrack_init 1 none ∈ gw := gw_t 249 (by decide +kernel) rfl
theorem zq_XTrack_init : zy_XTrack_init.cls ≠ "java/lang/invoke/MethodHandle" ∧ zy_XTrack_init.cls ≠ "java/lang/invoke/VarHandle" ∧ (parseMethodDescriptor zy_XTrack_init.desc).map (fun d => d.parameters.length) = some 0 := by decide +kernel
theorem zd_XTrack_init_0 : decode zb_XTrack_init 0 = .ok (.aload_n 0, 1) := by decide +kernel
theorem zd_XTrack_init_1 : decode zb_XTrack_init 1 = .ok (.invokespecial 3, 3) := by decide +kernel
theorem zd_XTrack_init_4 : decode zb_XTrack_init 4 = .ok (.aload_n 0, 1) := by decide +kernel
theorem zd_XTrack_init_5 : decode zb_XTrack_init 5 = .ok (.bipush 32, 2) := by decide +kernel
theorem zd_XTrack_init_7 : decode zb_XTrack_init 7 = .ok (.newarray .int, 2) := by decide +kernel
theorem zd_XTrack_init_9 : decode zb_XTrack_init 9 = .ok (.putfield 9, 3) := by decide +kernel
theorem zd_XTrack_init_12 : decode zb_XTrack_init 12 = .ok (.aload_n 0, 1) := by decide +kernel
theorem zd_XTrack_init_13 : decode zb_XTrack_init 13 = .ok (.bipush 96, 2) := by decide +kernel
theorem zd_XTrack_init_15 : decode zb_XTrack_init 15 = .ok (.newarray .int, 2) := by decide +kernel
theorem zd_XTrack_init_17 : decode zb_XTrack_init 17 = .ok (.putfield 15, 3) := by decide +kernel
theorem zd_XTrack_init_20 : decode zb_XTrack_init 20 = .ok (.return_, 1) := by decide +kernel
theorem zdef_XTrack : ∀ j, j < 6 → defaultValue (zk_ty 11 j) = vp_V [.int 0, .int 0, .int 0, .int 0, .null, .null] j := by
  intro j hj
  match j, hj with
  | 0, _ => rfl
  | 1, _ => rfl
  | 2, _ => rfl
  | 3, _ => rfl
  | 4, _ => rfl
  | 5, _ => rfl
  | k + 6, h => exact absurd h (by omega)
theorem zw_250 : (Jvm.Cond.methodLink "OrreryBox$Track" (3 : Nat) ({ cls := "java/lang/Object", name := "<init>", desc := "()V" } : Jvm.MethodName)) ∈ gw := gw_t 250 (by decide +kernel) rfl
theorem zw_259 : (Jvm.Cond.fieldLink "OrreryBox$Track" (9 : Nat) "OrreryBox$Track" "times" "[I") ∈ gw := gw_t 259 (by decide +kernel) rfl
theorem zw_261 : (Jvm.Cond.fieldLink "OrreryBox$Track" (15 : Nat) "OrreryBox$Track" "values" "[I") ∈ gw := gw_t 261 (by decide +kernel) rfl
set_option maxHeartbeats 4000000 in
set_option maxRecDepth 100000 in
theorem c_XTrack_init (l : Launch) (D : va_G) (tA : Nat → ClassId) (b : Nat) (f : zV) (n : Nat) (k : Nat)  (hf : f k = some (.inr (11, [.int 0, .int 0, .int 0, .int 0, .null, .null]))) : zM l D tA b zy_XTrack_init zb_XTrack_init 1 none 1 20 2 128 [.ref (b + k)] f n (zE none (zu (zu (zu f (n) (.inl (tA 0, 32, .inl (fun _ => 0)))) (n + 1) (.inl (tA 0, 96, .inl (fun _ => 0)))) k (.inr (11, [.int 0, .int 0, .int 0, .int 0, .ref (b + n), .ref (b + (n + 1))]))) (n + 1 + 1)) := by
  refine zM_of (own := "OrreryBox$Track") (plainFor_of_name (by decide)) rfl (Nat.le_of_ble_eq_true rfl) (fun p e s m below meth c F hr hin hH => ?_)
  have hk := hH.lt hf
  refine zr_aload_n F zd_XTrack_init_0 rfl ?_
  refine zr_objInit F zd_XTrack_init_1 zw_250 zw_35 zw_36 (Nat.le_of_ble_eq_true rfl) (Nat.le_of_ble_eq_true rfl) ?_
  refine zr_aload_n F zd_XTrack_init_4 rfl ?_
  refine zr_bipushv (v := 32) F zd_XTrack_init_5 (by decide) ?_
  refine zr_newa (N := 32) (a0 := (32, .inl (fun _ => 0))) F 0 zd_XTrack_init_7 rfl rfl zw_74 (fun _ => rfl) (by decide) (by decide) (Nat.le_of_ble_eq_true rfl) (Nat.le_of_ble_eq_true rfl) (Nat.le_of_ble_eq_true rfl) ?_
  refine zr_putF F 11 4 zd_XTrack_init_9 (by first | assumption | exact zu_s _ _ _ | exact (zu_n _ (by omega)).trans (by first | assumption | exact zu_s _ _ _ | exact (zu_n _ (by omega)).trans (by first | assumption | exact zu_s _ _ _ | exact (zu_n _ (by omega)).trans (by first | assumption | exact zu_s _ _ _ | exact (zu_n _ (by omega)).trans (by first | assumption | exact zu_s _ _ _ | exact (zu_n _ (by omega)).trans (by first | assumption | exact zu_s _ _ _ | exact (zu_n _ (by omega)).trans (by first | assumption | exact zu_s _ _ _ | exact (zu_n _ (by omega)).trans (by first | assumption | exact zu_s _ _ _)))))))) rfl (by decide) zw_259 rfl rfl hin rfl rfl rfl (by exact (Nat.le_of_ble_eq_true rfl)) ?_
  refine zr_aload_n F zd_XTrack_init_12 rfl ?_
  refine zr_bipushv (v := 96) F zd_XTrack_init_13 (by decide) ?_
  refine zr_newa (N := 96) (a0 := (96, .inl (fun _ => 0))) F 0 zd_XTrack_init_15 rfl rfl zw_74 (fun _ => rfl) (by decide) (by decide) (Nat.le_of_ble_eq_true rfl) (Nat.le_of_ble_eq_true rfl) (Nat.le_of_ble_eq_true rfl) ?_
  refine zr_putF F 11 5 zd_XTrack_init_17 (by first | assumption | exact zu_s _ _ _ | exact (zu_n _ (by omega)).trans (by first | assumption | exact zu_s _ _ _ | exact (zu_n _ (by omega)).trans (by first | assumption | exact zu_s _ _ _ | exact (zu_n _ (by omega)).trans (by first | assumption | exact zu_s _ _ _ | exact (zu_n _ (by omega)).trans (by first | assumption | exact zu_s _ _ _ | exact (zu_n _ (by omega)).trans (by first | assumption | exact zu_s _ _ _ | exact (zu_n _ (by omega)).trans (by first | assumption | exact zu_s _ _ _ | exact (zu_n _ (by omega)).trans (by first | assumption | exact zu_s _ _ _)))))))) rfl (by decide) zw_261 rfl rfl hin rfl rfl rfl (by exact (Nat.le_of_ble_eq_true rfl)) ?_
  exact zr_vret F hr zd_XTrack_init_20 (Nat.le_of_ble_eq_true rfl) (Nat.le_of_ble_eq_true rfl) ⟨rfl, by have h0 : k ≠ n := (by omega); have h1 : k ≠ n + 1 := (by omega); (try simp only [zu_swap h0, zu_swap h1, zu_zu]); rfl, rfl⟩
abbrev zb_XPiece_init : ByteArray := prog_7_method_1_code
def zy_XPiece_init : MethodName := ⟨"OrreryBox$Piece", "<init>", "()V"⟩
theorem zc_XPiece_init : Cond.code zy_XPiece_init zb_XPiece_init 1 none ∈ gw := gw_t 347 (by decide +kernel) rfl
theorem zq_XPiece_init : zy_XPiece_init.cls ≠ "java/lang/invoke/MethodHandle" ∧ zy_XPiece_init.cls ≠ "java/lang/invoke/VarHandle" ∧ (parseMethodDescriptor zy_XPiece_init.desc).map (fun d => d.parameters.length) = some 0 := by decide +kernel
theorem zd_XPiece_init_0 : decode zb_XPiece_init 0 = .ok (.aload_n 0, 1) := by decide +kernel
theorem zd_XPiece_init_1 : decode zb_XPiece_init 1 = .ok (.invokespecial 3, 3) := by decide +kernel
theorem zd_XPiece_init_4 : decode zb_XPiece_init 4 = .ok (.aload_n 0, 1) := by decide +kernel
theorem zd_XPiece_init_5 : decode zb_XPiece_init 5 = .ok (.bipush 18, 2) := by decide +kernel
theorem zd_XPiece_init_7 : decode zb_XPiece_init 7 = .ok (.newarray .int, 2) := by decide +kernel
theorem zd_XPiece_init_9 : decode zb_XPiece_init 9 = .ok (.putfield 9, 3) := by decide +kernel
theorem zd_XPiece_init_12 : decode zb_XPiece_init 12 = .ok (.return_, 1) := by decide +kernel
theorem zdef_XPiece : ∀ j, j < 6 → defaultValue (zk_ty 6 j) = vp_V [.long 0, .null, .long 0, .long 0, .long 0, .long 0] j := by
  intro j hj
  match j, hj with
  | 0, _ => rfl
  | 1, _ => rfl
  | 2, _ => rfl
  | 3, _ => rfl
  | 4, _ => rfl
  | 5, _ => rfl
  | k + 6, h => exact absurd h (by omega)
theorem zw_348 : (Jvm.Cond.methodLink "OrreryBox$Piece" (3 : Nat) ({ cls := "java/lang/Object", name := "<init>", desc := "()V" } : Jvm.MethodName)) ∈ gw := gw_t 348 (by decide +kernel) rfl
theorem zw_351 : (Jvm.Cond.fieldLink "OrreryBox$Piece" (9 : Nat) "OrreryBox$Piece" "row" "[I") ∈ gw := gw_t 351 (by decide +kernel) rfl
set_option maxHeartbeats 4000000 in
set_option maxRecDepth 100000 in
theorem c_XPiece_init (l : Launch) (D : va_G) (tA : Nat → ClassId) (b : Nat) (f : zV) (n : Nat) (k : Nat)  (hf : f k = some (.inr (6, [.long 0, .null, .long 0, .long 0, .long 0, .long 0]))) : zM l D tA b zy_XPiece_init zb_XPiece_init 1 none 1 20 1 18 [.ref (b + k)] f n (zE none (zu (zu f (n) (.inl (tA 0, 18, .inl (fun _ => 0)))) k (.inr (6, [.long 0, .ref (b + n), .long 0, .long 0, .long 0, .long 0]))) (n + 1)) := by
  refine zM_of (own := "OrreryBox$Piece") (plainFor_of_name (by decide)) rfl (Nat.le_of_ble_eq_true rfl) (fun p e s m below meth c F hr hin hH => ?_)
  have hk := hH.lt hf
  refine zr_aload_n F zd_XPiece_init_0 rfl ?_
  refine zr_objInit F zd_XPiece_init_1 zw_348 zw_35 zw_36 (Nat.le_of_ble_eq_true rfl) (Nat.le_of_ble_eq_true rfl) ?_
  refine zr_aload_n F zd_XPiece_init_4 rfl ?_
  refine zr_bipushv (v := 18) F zd_XPiece_init_5 (by decide) ?_
  refine zr_newa (N := 18) (a0 := (18, .inl (fun _ => 0))) F 0 zd_XPiece_init_7 rfl rfl zw_74 (fun _ => rfl) (by decide) (by decide) (Nat.le_of_ble_eq_true rfl) (Nat.le_of_ble_eq_true rfl) (Nat.le_of_ble_eq_true rfl) ?_
  refine zr_putF F 6 1 zd_XPiece_init_9 (by first | assumption | exact zu_s _ _ _ | exact (zu_n _ (by omega)).trans (by first | assumption | exact zu_s _ _ _ | exact (zu_n _ (by omega)).trans (by first | assumption | exact zu_s _ _ _ | exact (zu_n _ (by omega)).trans (by first | assumption | exact zu_s _ _ _ | exact (zu_n _ (by omega)).trans (by first | assumption | exact zu_s _ _ _ | exact (zu_n _ (by omega)).trans (by first | assumption | exact zu_s _ _ _ | exact (zu_n _ (by omega)).trans (by first | assumption | exact zu_s _ _ _ | exact (zu_n _ (by omega)).trans (by first | assumption | exact zu_s _ _ _)))))))) rfl (by decide) zw_351 rfl rfl hin rfl rfl rfl (by exact (Nat.le_of_ble_eq_true rfl)) ?_
  exact zr_vret F hr zd_XPiece_init_12 (Nat.le_of_ble_eq_true rfl) (Nat.le_of_ble_eq_true rfl) ⟨rfl, by have h0 : k ≠ n := (by omega); (try simp only [zu_swap h0, zu_zu]); rfl, rfl⟩
abbrev zb_XPacker_init : ByteArray := prog_5_method_1_code
def zy_XPacker_init : MethodName := ⟨"OrreryBox$Packer", "<init>", "()V"⟩
theorem zc_XPacker_init : Cond.code zy_XPacker_init zb_XPacker_init 1 none ∈ gw := gw_t 79 (by decide +kernel) rfl
theorem zq_XPacker_init : zy_XPacker_init.cls ≠ "java/lang/invoke/MethodHandle" ∧ zy_XPacker_init.cls ≠ "java/lang/invoke/VarHandle" ∧ (parseMethodDescriptor zy_XPacker_init.desc).map (fun d => d.parameters.length) = some 0 := by decide +kernel
theorem zd_XPacker_init_0 : decode zb_XPacker_init 0 = .ok (.aload_n 0, 1) := by decide +kernel
theorem zd_XPacker_init_1 : decode zb_XPacker_init 1 = .ok (.invokespecial 5, 3) := by decide +kernel
theorem zd_XPacker_init_4 : decode zb_XPacker_init 4 = .ok (.aload_n 0, 1) := by decide +kernel
theorem zd_XPacker_init_5 : decode zb_XPacker_init 5 = .ok (.sipush 7958, 3) := by decide +kernel
theorem zd_XPacker_init_8 : decode zb_XPacker_init 8 = .ok (.newarray .byte, 2) := by decide +kernel
theorem zd_XPacker_init_10 : decode zb_XPacker_init 10 = .ok (.putfield 11, 3) := by decide +kernel
theorem zd_XPacker_init_13 : decode zb_XPacker_init 13 = .ok (.aload_n 0, 1) := by decide +kernel
theorem zd_XPacker_init_14 : decode zb_XPacker_init 14 = .ok (.sipush 6912, 3) := by decide +kernel
theorem zd_XPacker_init_17 : decode zb_XPacker_init 17 = .ok (.newarray .int, 2) := by decide +kernel
theorem zd_XPacker_init_19 : decode zb_XPacker_init 19 = .ok (.putfield 15, 3) := by decide +kernel
theorem zd_XPacker_init_22 : decode zb_XPacker_init 22 = .ok (.aload_n 0, 1) := by decide +kernel
theorem zd_XPacker_init_23 : decode zb_XPacker_init 23 = .ok (.sipush 6960, 3) := by decide +kernel
theorem zd_XPacker_init_26 : decode zb_XPacker_init 26 = .ok (.newarray .int, 2) := by decide +kernel
theorem zd_XPacker_init_28 : decode zb_XPacker_init 28 = .ok (.putfield 19, 3) := by decide +kernel
theorem zd_XPacker_init_31 : decode zb_XPacker_init 31 = .ok (.aload_n 0, 1) := by decide +kernel
theorem zd_XPacker_init_32 : decode zb_XPacker_init 32 = .ok (.sipush 4096, 3) := by decide +kernel
theorem zd_XPacker_init_35 : decode zb_XPacker_init 35 = .ok (.newarray .int, 2) := by decide +kernel
theorem zd_XPacker_init_37 : decode zb_XPacker_init 37 = .ok (.putfield 22, 3) := by decide +kernel
theorem zd_XPacker_init_40 : decode zb_XPacker_init 40 = .ok (.aload_n 0, 1) := by decide +kernel
theorem zd_XPacker_init_41 : decode zb_XPacker_init 41 = .ok (.sipush 6960, 3) := by decide +kernel
theorem zd_XPacker_init_44 : decode zb_XPacker_init 44 = .ok (.newarray .int, 2) := by decide +kernel
theorem zd_XPacker_init_46 : decode zb_XPacker_init 46 = .ok (.putfield 25, 3) := by decide +kernel
theorem zd_XPacker_init_49 : decode zb_XPacker_init 49 = .ok (.return_, 1) := by decide +kernel
theorem zdef_XPacker : ∀ j, j < 11 → defaultValue (zk_ty 4 j) = vp_V [.null, .int 0, .null, .null, .int 0, .null, .null, .int 0, .int 0, .int 0, .int 0] j := by
  intro j hj
  match j, hj with
  | 0, _ => rfl
  | 1, _ => rfl
  | 2, _ => rfl
  | 3, _ => rfl
  | 4, _ => rfl
  | 5, _ => rfl
  | 6, _ => rfl
  | 7, _ => rfl
  | 8, _ => rfl
  | 9, _ => rfl
  | 10, _ => rfl
  | k + 11, h => exact absurd h (by omega)
theorem zw_80 : (Jvm.Cond.methodLink "OrreryBox$Packer" (5 : Nat) ({ cls := "java/lang/Object", name := "<init>", desc := "()V" } : Jvm.MethodName)) ∈ gw := gw_t 80 (by decide +kernel) rfl
theorem zw_73 : (Jvm.Cond.arrayClass Jvm.ClassFile.FieldType.byte) ∈ gw := gw_t 73 (by decide +kernel) rfl
theorem zw_81 : (Jvm.Cond.fieldLink "OrreryBox$Packer" (11 : Nat) "OrreryBox$Packer" "out" "[B") ∈ gw := gw_t 81 (by decide +kernel) rfl
theorem zw_85 : (Jvm.Cond.fieldLink "OrreryBox$Packer" (15 : Nat) "OrreryBox$Packer" "raw" "[I") ∈ gw := gw_t 85 (by decide +kernel) rfl
theorem zw_86 : (Jvm.Cond.fieldLink "OrreryBox$Packer" (19 : Nat) "OrreryBox$Packer" "rows" "[I") ∈ gw := gw_t 86 (by decide +kernel) rfl
theorem zw_88 : (Jvm.Cond.fieldLink "OrreryBox$Packer" (22 : Nat) "OrreryBox$Packer" "latest" "[I") ∈ gw := gw_t 88 (by decide +kernel) rfl
theorem zw_89 : (Jvm.Cond.fieldLink "OrreryBox$Packer" (25 : Nat) "OrreryBox$Packer" "earlier" "[I") ∈ gw := gw_t 89 (by decide +kernel) rfl
set_option maxHeartbeats 4000000 in
set_option maxRecDepth 100000 in
theorem c_XPacker_init (l : Launch) (D : va_G) (tA : Nat → ClassId) (b : Nat) (f : zV) (n : Nat) (k : Nat)  (hf : f k = some (.inr (4, [.null, .int 0, .null, .null, .int 0, .null, .null, .int 0, .int 0, .int 0, .int 0]))) : zM l D tA b zy_XPacker_init zb_XPacker_init 1 none 1 20 5 32886 [.ref (b + k)] f n (zE none (zu (zu (zu (zu (zu (zu f (n) (.inl (tA 1, 7958, .inl (fun _ => 0)))) (n + 1) (.inl (tA 0, 6912, .inl (fun _ => 0)))) (n + 1 + 1) (.inl (tA 0, 6960, .inl (fun _ => 0)))) (n + 1 + 1 + 1) (.inl (tA 0, 4096, .inl (fun _ => 0)))) (n + 1 + 1 + 1 + 1) (.inl (tA 0, 6960, .inl (fun _ => 0)))) k (.inr (4, [.ref (b + n), .int 0, .ref (b + (n + 1)), .ref (b + (n + 1 + 1)), .int 0, .ref (b + (n + 1 + 1 + 1)), .ref (b + (n + 1 + 1 + 1 + 1)), .int 0, .int 0, .int 0, .int 0]))) (n + 1 + 1 + 1 + 1 + 1)) := by
  refine zM_of (own := "OrreryBox$Packer") (plainFor_of_name (by decide)) rfl (Nat.le_of_ble_eq_true rfl) (fun p e s m below meth c F hr hin hH => ?_)
  have hk := hH.lt hf
  refine zr_aload_n F zd_XPacker_init_0 rfl ?_
  refine zr_objInit F zd_XPacker_init_1 zw_80 zw_35 zw_36 (Nat.le_of_ble_eq_true rfl) (Nat.le_of_ble_eq_true rfl) ?_
  refine zr_aload_n F zd_XPacker_init_4 rfl ?_
  refine zr_sipushv (v := 7958) F zd_XPacker_init_5 (by decide) ?_
  refine zr_newa (N := 7958) (a0 := (7958, .inl (fun _ => 0))) F 1 zd_XPacker_init_8 rfl rfl zw_73 (fun _ => rfl) (by decide) (by decide) (Nat.le_of_ble_eq_true rfl) (Nat.le_of_ble_eq_true rfl) (Nat.le_of_ble_eq_true rfl) ?_
  refine zr_putF F 4 0 zd_XPacker_init_10 (by first | assumption | exact zu_s _ _ _ | exact (zu_n _ (by omega)).trans (by first | assumption | exact zu_s _ _ _ | exact (zu_n _ (by omega)).trans (by first | assumption | exact zu_s _ _ _ | exact (zu_n _ (by omega)).trans (by first | assumption | exact zu_s _ _ _ | exact (zu_n _ (by omega)).trans (by first | assumption | exact zu_s _ _ _ | exact (zu_n _ (by omega)).trans (by first | assumption | exact zu_s _ _ _ | exact (zu_n _ (by omega)).trans (by first | assumption | exact zu_s _ _ _ | exact (zu_n _ (by omega)).trans (by first | assumption | exact zu_s _ _ _)))))))) rfl (by decide) zw_81 rfl rfl hin rfl rfl rfl (by exact (Nat.le_of_ble_eq_true rfl)) ?_
  refine zr_aload_n F zd_XPacker_init_13 rfl ?_
  refine zr_sipushv (v := 6912) F zd_XPacker_init_14 (by decide) ?_
  refine zr_newa (N := 6912) (a0 := (6912, .inl (fun _ => 0))) F 0 zd_XPacker_init_17 rfl rfl zw_74 (fun _ => rfl) (by decide) (by decide) (Nat.le_of_ble_eq_true rfl) (Nat.le_of_ble_eq_true rfl) (Nat.le_of_ble_eq_true rfl) ?_
  refine zr_putF F 4 2 zd_XPacker_init_19 (by first | assumption | exact zu_s _ _ _ | exact (zu_n _ (by omega)).trans (by first | assumption | exact zu_s _ _ _ | exact (zu_n _ (by omega)).trans (by first | assumption | exact zu_s _ _ _ | exact (zu_n _ (by omega)).trans (by first | assumption | exact zu_s _ _ _ | exact (zu_n _ (by omega)).trans (by first | assumption | exact zu_s _ _ _ | exact (zu_n _ (by omega)).trans (by first | assumption | exact zu_s _ _ _ | exact (zu_n _ (by omega)).trans (by first | assumption | exact zu_s _ _ _ | exact (zu_n _ (by omega)).trans (by first | assumption | exact zu_s _ _ _)))))))) rfl (by decide) zw_85 rfl rfl hin rfl rfl rfl (by exact (Nat.le_of_ble_eq_true rfl)) ?_
  refine zr_aload_n F zd_XPacker_init_22 rfl ?_
  refine zr_sipushv (v := 6960) F zd_XPacker_init_23 (by decide) ?_
  refine zr_newa (N := 6960) (a0 := (6960, .inl (fun _ => 0))) F 0 zd_XPacker_init_26 rfl rfl zw_74 (fun _ => rfl) (by decide) (by decide) (Nat.le_of_ble_eq_true rfl) (Nat.le_of_ble_eq_true rfl) (Nat.le_of_ble_eq_true rfl) ?_
  refine zr_putF F 4 3 zd_XPacker_init_28 (by first | assumption | exact zu_s _ _ _ | exact (zu_n _ (by omega)).trans (by first | assumption | exact zu_s _ _ _ | exact (zu_n _ (by omega)).trans (by first | assumption | exact zu_s _ _ _ | exact (zu_n _ (by omega)).trans (by first | assumption | exact zu_s _ _ _ | exact (zu_n _ (by omega)).trans (by first | assumption | exact zu_s _ _ _ | exact (zu_n _ (by omega)).trans (by first | assumption | exact zu_s _ _ _ | exact (zu_n _ (by omega)).trans (by first | assumption | exact zu_s _ _ _ | exact (zu_n _ (by omega)).trans (by first | assumption | exact zu_s _ _ _)))))))) rfl (by decide) zw_86 rfl rfl hin rfl rfl rfl (by exact (Nat.le_of_ble_eq_true rfl)) ?_
  refine zr_aload_n F zd_XPacker_init_31 rfl ?_
  refine zr_sipushv (v := 4096) F zd_XPacker_init_32 (by decide) ?_
  refine zr_newa (N := 4096) (a0 := (4096, .inl (fun _ => 0))) F 0 zd_XPacker_init_35 rfl rfl zw_74 (fun _ => rfl) (by decide) (by decide) (Nat.le_of_ble_eq_true rfl) (Nat.le_of_ble_eq_true rfl) (Nat.le_of_ble_eq_true rfl) ?_
  refine zr_putF F 4 5 zd_XPacker_init_37 (by first | assumption | exact zu_s _ _ _ | exact (zu_n _ (by omega)).trans (by first | assumption | exact zu_s _ _ _ | exact (zu_n _ (by omega)).trans (by first | assumption | exact zu_s _ _ _ | exact (zu_n _ (by omega)).trans (by first | assumption | exact zu_s _ _ _ | exact (zu_n _ (by omega)).trans (by first | assumption | exact zu_s _ _ _ | exact (zu_n _ (by omega)).trans (by first | assumption | exact zu_s _ _ _ | exact (zu_n _ (by omega)).trans (by first | assumption | exact zu_s _ _ _ | exact (zu_n _ (by omega)).trans (by first | assumption | exact zu_s _ _ _)))))))) rfl (by decide) zw_88 rfl rfl hin rfl rfl rfl (by exact (Nat.le_of_ble_eq_true rfl)) ?_
  refine zr_aload_n F zd_XPacker_init_40 rfl ?_
  refine zr_sipushv (v := 6960) F zd_XPacker_init_41 (by decide) ?_
  refine zr_newa (N := 6960) (a0 := (6960, .inl (fun _ => 0))) F 0 zd_XPacker_init_44 rfl rfl zw_74 (fun _ => rfl) (by decide) (by decide) (Nat.le_of_ble_eq_true rfl) (Nat.le_of_ble_eq_true rfl) (Nat.le_of_ble_eq_true rfl) ?_
  refine zr_putF F 4 6 zd_XPacker_init_46 (by first | assumption | exact zu_s _ _ _ | exact (zu_n _ (by omega)).trans (by first | assumption | exact zu_s _ _ _ | exact (zu_n _ (by omega)).trans (by first | assumption | exact zu_s _ _ _ | exact (zu_n _ (by omega)).trans (by first | assumption | exact zu_s _ _ _ | exact (zu_n _ (by omega)).trans (by first | assumption | exact zu_s _ _ _ | exact (zu_n _ (by omega)).trans (by first | assumption | exact zu_s _ _ _ | exact (zu_n _ (by omega)).trans (by first | assumption | exact zu_s _ _ _ | exact (zu_n _ (by omega)).trans (by first | assumption | exact zu_s _ _ _)))))))) rfl (by decide) zw_89 rfl rfl hin rfl rfl rfl (by exact (Nat.le_of_ble_eq_true rfl)) ?_
  exact zr_vret F hr zd_XPacker_init_49 (Nat.le_of_ble_eq_true rfl) (Nat.le_of_ble_eq_true rfl) ⟨rfl, by have h0 : k ≠ n := (by omega); have h1 : k ≠ n + 1 := (by omega); have h2 : k ≠ n + 1 + 1 := (by omega); have h3 : k ≠ n + 1 + 1 + 1 := (by omega); have h4 : k ≠ n + 1 + 1 + 1 + 1 := (by omega); (try simp only [zu_swap h0, zu_swap h1, zu_swap h2, zu_swap h3, zu_swap h4, zu_zu]); rfl, rfl⟩
abbrev zb_XReader_init : ByteArray := prog_8_method_1_code
def zy_XReader_init : MethodName := ⟨"OrreryBox$Reader", "<init>", "()V"⟩
theorem zc_XReader_init : Cond.code zy_XReader_init zb_XReader_init 1 none ∈ gw := gw_t 44 (by decide +kernel) rfl
theorem zq_XReader_init : zy_XReader_init.cls ≠ "java/lang/invoke/MethodHandle" ∧ zy_XReader_init.cls ≠ "java/lang/invoke/VarHandle" ∧ (parseMethodDescriptor zy_XReader_init.desc).map (fun d => d.parameters.length) = some 0 := by decide +kernel
theorem zd_XReader_init_0 : decode zb_XReader_init 0 = .ok (.aload_n 0, 1) := by decide +kernel
theorem zd_XReader_init_1 : decode zb_XReader_init 1 = .ok (.invokespecial 3, 3) := by decide +kernel
theorem zd_XReader_init_4 : decode zb_XReader_init 4 = .ok (.aload_n 0, 1) := by decide +kernel
theorem zd_XReader_init_5 : decode zb_XReader_init 5 = .ok (.sipush 3072, 3) := by decide +kernel
theorem zd_XReader_init_8 : decode zb_XReader_init 8 = .ok (.newarray .int, 2) := by decide +kernel
theorem zd_XReader_init_10 : decode zb_XReader_init 10 = .ok (.putfield 9, 3) := by decide +kernel
theorem zd_XReader_init_13 : decode zb_XReader_init 13 = .ok (.return_, 1) := by decide +kernel
theorem zdef_XReader : ∀ j, j < 8 → defaultValue (zk_ty 7 j) = vp_V [.int 0, .int 0, .null, .null, .int 0, .int 0, .int 0, .null] j := by
  intro j hj
  match j, hj with
  | 0, _ => rfl
  | 1, _ => rfl
  | 2, _ => rfl
  | 3, _ => rfl
  | 4, _ => rfl
  | 5, _ => rfl
  | 6, _ => rfl
  | 7, _ => rfl
  | k + 8, h => exact absurd h (by omega)
theorem zw_45 : (Jvm.Cond.methodLink "OrreryBox$Reader" (3 : Nat) ({ cls := "java/lang/Object", name := "<init>", desc := "()V" } : Jvm.MethodName)) ∈ gw := gw_t 45 (by decide +kernel) rfl
theorem zw_50 : (Jvm.Cond.fieldLink "OrreryBox$Reader" (9 : Nat) "OrreryBox$Reader" "row" "[I") ∈ gw := gw_t 50 (by decide +kernel) rfl
set_option maxHeartbeats 4000000 in
set_option maxRecDepth 100000 in
theorem c_XReader_init (l : Launch) (D : va_G) (tA : Nat → ClassId) (b : Nat) (f : zV) (n : Nat) (k : Nat)  (hf : f k = some (.inr (7, [.int 0, .int 0, .null, .null, .int 0, .int 0, .int 0, .null]))) : zM l D tA b zy_XReader_init zb_XReader_init 1 none 1 20 1 3072 [.ref (b + k)] f n (zE none (zu (zu f (n) (.inl (tA 0, 3072, .inl (fun _ => 0)))) k (.inr (7, [.int 0, .int 0, .ref (b + n), .null, .int 0, .int 0, .int 0, .null]))) (n + 1)) := by
  refine zM_of (own := "OrreryBox$Reader") (plainFor_of_name (by decide)) rfl (Nat.le_of_ble_eq_true rfl) (fun p e s m below meth c F hr hin hH => ?_)
  have hk := hH.lt hf
  refine zr_aload_n F zd_XReader_init_0 rfl ?_
  refine zr_objInit F zd_XReader_init_1 zw_45 zw_35 zw_36 (Nat.le_of_ble_eq_true rfl) (Nat.le_of_ble_eq_true rfl) ?_
  refine zr_aload_n F zd_XReader_init_4 rfl ?_
  refine zr_sipushv (v := 3072) F zd_XReader_init_5 (by decide) ?_
  refine zr_newa (N := 3072) (a0 := (3072, .inl (fun _ => 0))) F 0 zd_XReader_init_8 rfl rfl zw_74 (fun _ => rfl) (by decide) (by decide) (Nat.le_of_ble_eq_true rfl) (Nat.le_of_ble_eq_true rfl) (Nat.le_of_ble_eq_true rfl) ?_
  refine zr_putF F 7 2 zd_XReader_init_10 (by first | assumption | exact zu_s _ _ _ | exact (zu_n _ (by omega)).trans (by first | assumption | exact zu_s _ _ _ | exact (zu_n _ (by omega)).trans (by first | assumption | exact zu_s _ _ _ | exact (zu_n _ (by omega)).trans (by first | assumption | exact zu_s _ _ _ | exact (zu_n _ (by omega)).trans (by first | assumption | exact zu_s _ _ _ | exact (zu_n _ (by omega)).trans (by first | assumption | exact zu_s _ _ _ | exact (zu_n _ (by omega)).trans (by first | assumption | exact zu_s _ _ _ | exact (zu_n _ (by omega)).trans (by first | assumption | exact zu_s _ _ _)))))))) rfl (by decide) zw_50 rfl rfl hin rfl rfl rfl (by exact (Nat.le_of_ble_eq_true rfl)) ?_
  exact zr_vret F hr zd_XReader_init_13 (Nat.le_of_ble_eq_true rfl) (Nat.le_of_ble_eq_true rfl) ⟨rfl, by have h0 : k ≠ n := (by omega); (try simp only [zu_swap h0, zu_zu]); rfl, rfl⟩
abbrev zb_MPacker_init : ByteArray := prog_15_method_1_code
def zy_MPacker_init : MethodName := ⟨"OrreryBoxModel$Packer", "<init>", "()V"⟩
theorem zc_MPacker_init : Cond.code zy_MPacker_init zb_MPacker_init 1 none ∈ gw := gw_t 1544 (by decide +kernel) rfl
theorem zq_MPacker_init : zy_MPacker_init.cls ≠ "java/lang/invoke/MethodHandle" ∧ zy_MPacker_init.cls ≠ "java/lang/invoke/VarHandle" ∧ (parseMethodDescriptor zy_MPacker_init.desc).map (fun d => d.parameters.length) = some 0 := by decide +kernel
theorem zd_MPacker_init_0 : decode zb_MPacker_init 0 = .ok (.aload_n 0, 1) := by decide +kernel
theorem zd_MPacker_init_1 : decode zb_MPacker_init 1 = .ok (.invokespecial 1, 3) := by decide +kernel
theorem zd_MPacker_init_4 : decode zb_MPacker_init 4 = .ok (.aload_n 0, 1) := by decide +kernel
theorem zd_MPacker_init_5 : decode zb_MPacker_init 5 = .ok (.sipush 6960, 3) := by decide +kernel
theorem zd_MPacker_init_8 : decode zb_MPacker_init 8 = .ok (.newarray .int, 2) := by decide +kernel
theorem zd_MPacker_init_10 : decode zb_MPacker_init 10 = .ok (.putfield 7, 3) := by decide +kernel
theorem zd_MPacker_init_13 : decode zb_MPacker_init 13 = .ok (.aload_n 0, 1) := by decide +kernel
theorem zd_MPacker_init_14 : decode zb_MPacker_init 14 = .ok (.sipush 8192, 3) := by decide +kernel
theorem zd_MPacker_init_17 : decode zb_MPacker_init 17 = .ok (.newarray .byte, 2) := by decide +kernel
theorem zd_MPacker_init_19 : decode zb_MPacker_init 19 = .ok (.putfield 13, 3) := by decide +kernel
theorem zd_MPacker_init_22 : decode zb_MPacker_init 22 = .ok (.return_, 1) := by decide +kernel
theorem zdef_MPacker : ∀ j, j < 7 → defaultValue (zk_ty 12 j) = vp_V [.null, .int 0, .null, .int 0, .int 0, .int 0, .null] j := by
  intro j hj
  match j, hj with
  | 0, _ => rfl
  | 1, _ => rfl
  | 2, _ => rfl
  | 3, _ => rfl
  | 4, _ => rfl
  | 5, _ => rfl
  | 6, _ => rfl
  | k + 7, h => exact absurd h (by omega)
theorem zw_1545 : (Jvm.Cond.methodLink "OrreryBoxModel$Packer" (1 : Nat) ({ cls := "java/lang/Object", name := "<init>", desc := "()V" } : Jvm.MethodName)) ∈ gw := gw_t 1545 (by decide +kernel) rfl
theorem zw_1546 : (Jvm.Cond.fieldLink "OrreryBoxModel$Packer" (7 : Nat) "OrreryBoxModel$Packer" "rows" "[I") ∈ gw := gw_t 1546 (by decide +kernel) rfl
theorem zw_1548 : (Jvm.Cond.fieldLink "OrreryBoxModel$Packer" (13 : Nat) "OrreryBoxModel$Packer" "file" "[B") ∈ gw := gw_t 1548 (by decide +kernel) rfl
set_option maxHeartbeats 4000000 in
set_option maxRecDepth 100000 in
theorem c_MPacker_init (l : Launch) (D : va_G) (tA : Nat → ClassId) (b : Nat) (f : zV) (n : Nat) (k : Nat)  (hf : f k = some (.inr (12, [.null, .int 0, .null, .int 0, .int 0, .int 0, .null]))) : zM l D tA b zy_MPacker_init zb_MPacker_init 1 none 1 20 2 15152 [.ref (b + k)] f n (zE none (zu (zu (zu f (n) (.inl (tA 0, 6960, .inl (fun _ => 0)))) (n + 1) (.inl (tA 1, 8192, .inl (fun _ => 0)))) k (.inr (12, [.ref (b + n), .int 0, .ref (b + (n + 1)), .int 0, .int 0, .int 0, .null]))) (n + 1 + 1)) := by
  refine zM_of (own := "OrreryBoxModel$Packer") (plainFor_of_name (by decide)) rfl (Nat.le_of_ble_eq_true rfl) (fun p e s m below meth c F hr hin hH => ?_)
  have hk := hH.lt hf
  refine zr_aload_n F zd_MPacker_init_0 rfl ?_
  refine zr_objInit F zd_MPacker_init_1 zw_1545 zw_35 zw_36 (Nat.le_of_ble_eq_true rfl) (Nat.le_of_ble_eq_true rfl) ?_
  refine zr_aload_n F zd_MPacker_init_4 rfl ?_
  refine zr_sipushv (v := 6960) F zd_MPacker_init_5 (by decide) ?_
  refine zr_newa (N := 6960) (a0 := (6960, .inl (fun _ => 0))) F 0 zd_MPacker_init_8 rfl rfl zw_74 (fun _ => rfl) (by decide) (by decide) (Nat.le_of_ble_eq_true rfl) (Nat.le_of_ble_eq_true rfl) (Nat.le_of_ble_eq_true rfl) ?_
  refine zr_putF F 12 0 zd_MPacker_init_10 (by first | assumption | exact zu_s _ _ _ | exact (zu_n _ (by omega)).trans (by first | assumption | exact zu_s _ _ _ | exact (zu_n _ (by omega)).trans (by first | assumption | exact zu_s _ _ _ | exact (zu_n _ (by omega)).trans (by first | assumption | exact zu_s _ _ _ | exact (zu_n _ (by omega)).trans (by first | assumption | exact zu_s _ _ _ | exact (zu_n _ (by omega)).trans (by first | assumption | exact zu_s _ _ _ | exact (zu_n _ (by omega)).trans (by first | assumption | exact zu_s _ _ _ | exact (zu_n _ (by omega)).trans (by first | assumption | exact zu_s _ _ _)))))))) rfl (by decide) zw_1546 rfl rfl hin rfl rfl rfl (by exact (Nat.le_of_ble_eq_true rfl)) ?_
  refine zr_aload_n F zd_MPacker_init_13 rfl ?_
  refine zr_sipushv (v := 8192) F zd_MPacker_init_14 (by decide) ?_
  refine zr_newa (N := 8192) (a0 := (8192, .inl (fun _ => 0))) F 1 zd_MPacker_init_17 rfl rfl zw_73 (fun _ => rfl) (by decide) (by decide) (Nat.le_of_ble_eq_true rfl) (Nat.le_of_ble_eq_true rfl) (Nat.le_of_ble_eq_true rfl) ?_
  refine zr_putF F 12 2 zd_MPacker_init_19 (by first | assumption | exact zu_s _ _ _ | exact (zu_n _ (by omega)).trans (by first | assumption | exact zu_s _ _ _ | exact (zu_n _ (by omega)).trans (by first | assumption | exact zu_s _ _ _ | exact (zu_n _ (by omega)).trans (by first | assumption | exact zu_s _ _ _ | exact (zu_n _ (by omega)).trans (by first | assumption | exact zu_s _ _ _ | exact (zu_n _ (by omega)).trans (by first | assumption | exact zu_s _ _ _ | exact (zu_n _ (by omega)).trans (by first | assumption | exact zu_s _ _ _ | exact (zu_n _ (by omega)).trans (by first | assumption | exact zu_s _ _ _)))))))) rfl (by decide) zw_1548 rfl rfl hin rfl rfl rfl (by exact (Nat.le_of_ble_eq_true rfl)) ?_
  exact zr_vret F hr zd_MPacker_init_22 (Nat.le_of_ble_eq_true rfl) (Nat.le_of_ble_eq_true rfl) ⟨rfl, by have h0 : k ≠ n := (by omega); have h1 : k ≠ n + 1 := (by omega); (try simp only [zu_swap h0, zu_swap h1, zu_zu]); rfl, rfl⟩
abbrev zb_MReader_init : ByteArray := prog_17_method_1_code
def zy_MReader_init : MethodName := ⟨"OrreryBoxModel$Reader", "<init>", "([BLOrreryBoxModel$Scene;)V"⟩
theorem zc_MReader_init : Cond.code zy_MReader_init zb_MReader_init 3 none ∈ gw := gw_t 1502 (by decide +kernel) rfl
theorem zq_MReader_init : zy_MReader_init.cls ≠ "java/lang/invoke/MethodHandle" ∧ zy_MReader_init.cls ≠ "java/lang/invoke/VarHandle" ∧ (parseMethodDescriptor zy_MReader_init.desc).map (fun d => d.parameters.length) = some 2 := by decide +kernel
theorem zd_MReader_init_0 : decode zb_MReader_init 0 = .ok (.aload_n 0, 1) := by decide +kernel
theorem zd_MReader_init_1 : decode zb_MReader_init 1 = .ok (.invokespecial 1, 3) := by decide +kernel
theorem zd_MReader_init_4 : decode zb_MReader_init 4 = .ok (.aload_n 0, 1) := by decide +kernel
theorem zd_MReader_init_5 : decode zb_MReader_init 5 = .ok (.aload_n 1, 1) := by decide +kernel
theorem zd_MReader_init_6 : decode zb_MReader_init 6 = .ok (.putfield 7, 3) := by decide +kernel
theorem zd_MReader_init_9 : decode zb_MReader_init 9 = .ok (.aload_n 0, 1) := by decide +kernel
theorem zd_MReader_init_10 : decode zb_MReader_init 10 = .ok (.aload_n 2, 1) := by decide +kernel
theorem zd_MReader_init_11 : decode zb_MReader_init 11 = .ok (.putfield 13, 3) := by decide +kernel
theorem zd_MReader_init_14 : decode zb_MReader_init 14 = .ok (.return_, 1) := by decide +kernel
theorem zdef_MReader : ∀ j, j < 11 → defaultValue (zk_ty 14 j) = vp_V [.null, .null, .int 0, .int 0, .int 0, .int 0, .int 0, .int 0, .int 0, .int 0, .int 0] j := by
  intro j hj
  match j, hj with
  | 0, _ => rfl
  | 1, _ => rfl
  | 2, _ => rfl
  | 3, _ => rfl
  | 4, _ => rfl
  | 5, _ => rfl
  | 6, _ => rfl
  | 7, _ => rfl
  | 8, _ => rfl
  | 9, _ => rfl
  | 10, _ => rfl
  | k + 11, h => exact absurd h (by omega)
theorem zw_1503 : (Jvm.Cond.methodLink "OrreryBoxModel$Reader" (1 : Nat) ({ cls := "java/lang/Object", name := "<init>", desc := "()V" } : Jvm.MethodName)) ∈ gw := gw_t 1503 (by decide +kernel) rfl
theorem zw_1504 : (Jvm.Cond.fieldLink "OrreryBoxModel$Reader" (7 : Nat) "OrreryBoxModel$Reader" "text" "[B") ∈ gw := gw_t 1504 (by decide +kernel) rfl
theorem zw_1505 : (Jvm.Cond.fieldLink "OrreryBoxModel$Reader" (13 : Nat) "OrreryBoxModel$Reader" "scene" "LOrreryBoxModel$Scene;") ∈ gw := gw_t 1505 (by decide +kernel) rfl
set_option maxHeartbeats 4000000 in
set_option maxRecDepth 100000 in
theorem c_MReader_init (l : Launch) (D : va_G) (tA : Nat → ClassId) (b : Nat) (f : zV) (n : Nat) (k : Nat) (t sc : Nat) (hf : f k = some (.inr (14, [.null, .null, .int 0, .int 0, .int 0, .int 0, .int 0, .int 0, .int 0, .int 0, .int 0]))) : zM l D tA b zy_MReader_init zb_MReader_init 3 none 1 20 0 0 [.ref (b + k), .ref t, .ref sc] f n (zE none (zu f k (.inr (14, [.ref t, .ref sc, .int 0, .int 0, .int 0, .int 0, .int 0, .int 0, .int 0, .int 0, .int 0]))) (n)) := by
  refine zM_of (own := "OrreryBoxModel$Reader") (plainFor_of_name (by decide)) rfl (Nat.le_of_ble_eq_true rfl) (fun p e s m below meth c F hr hin hH => ?_)
  have hk := hH.lt hf
  refine zr_aload_n F zd_MReader_init_0 rfl ?_
  refine zr_objInit F zd_MReader_init_1 zw_1503 zw_35 zw_36 (Nat.le_of_ble_eq_true rfl) (Nat.le_of_ble_eq_true rfl) ?_
  refine zr_aload_n F zd_MReader_init_4 rfl ?_
  refine zr_aload_n F zd_MReader_init_5 rfl ?_
  refine zr_putF F 14 0 zd_MReader_init_6 (by first | assumption | exact zu_s _ _ _ | exact (zu_n _ (by omega)).trans (by first | assumption | exact zu_s _ _ _ | exact (zu_n _ (by omega)).trans (by first | assumption | exact zu_s _ _ _ | exact (zu_n _ (by omega)).trans (by first | assumption | exact zu_s _ _ _ | exact (zu_n _ (by omega)).trans (by first | assumption | exact zu_s _ _ _ | exact (zu_n _ (by omega)).trans (by first | assumption | exact zu_s _ _ _ | exact (zu_n _ (by omega)).trans (by first | assumption | exact zu_s _ _ _ | exact (zu_n _ (by omega)).trans (by first | assumption | exact zu_s _ _ _)))))))) rfl (by decide) zw_1504 rfl rfl hin rfl rfl rfl (by exact (Nat.le_of_ble_eq_true rfl)) ?_
  refine zr_aload_n F zd_MReader_init_9 rfl ?_
  refine zr_aload_n F zd_MReader_init_10 rfl ?_
  refine zr_putF F 14 1 zd_MReader_init_11 (by first | assumption | exact zu_s _ _ _ | exact (zu_n _ (by omega)).trans (by first | assumption | exact zu_s _ _ _ | exact (zu_n _ (by omega)).trans (by first | assumption | exact zu_s _ _ _ | exact (zu_n _ (by omega)).trans (by first | assumption | exact zu_s _ _ _ | exact (zu_n _ (by omega)).trans (by first | assumption | exact zu_s _ _ _ | exact (zu_n _ (by omega)).trans (by first | assumption | exact zu_s _ _ _ | exact (zu_n _ (by omega)).trans (by first | assumption | exact zu_s _ _ _ | exact (zu_n _ (by omega)).trans (by first | assumption | exact zu_s _ _ _)))))))) rfl (by decide) zw_1505 rfl rfl hin rfl rfl rfl (by exact (Nat.le_of_ble_eq_true rfl)) ?_
  exact zr_vret F hr zd_MReader_init_14 (Nat.le_of_ble_eq_true rfl) (Nat.le_of_ble_eq_true rfl) ⟨rfl, by  (try simp only [zu_zu]); rfl, rfl⟩
