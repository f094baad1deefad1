theorem zw_181 : (Jvm.Cond.fieldLink "OrreryBox$Sight" (158 : Nat) "OrreryBox$Mesh" "faceCount" "I") ∈ gw := gw_t 181 (by decide +kernel) rfl
theorem zw_718 : (Jvm.Cond.methodLink "OrreryBox$Sight" (161 : Nat) ({ cls := "OrreryBox$Sight", name := "cutFace", desc := "(LOrreryBox$Mesh;)V" } : Jvm.MethodName)) ∈ gw := gw_t 718 (by decide +kernel) rfl
theorem zw_720 : (Jvm.Cond.instanceMethod ({ cls := "OrreryBox$Sight", name := "cutFace", desc := "(LOrreryBox$Mesh;)V" } : Jvm.MethodName)) ∈ gw := gw_t 720 (by decide +kernel) rfl
theorem zv_11 : (Jvm.Cond.selects "OrreryBox$Sight" (⟨"OrreryBox$Sight", "cutFace", "(LOrreryBox$Mesh;)V"⟩ : MethodName) ⟨"OrreryBox$Sight", "cutFace", "(LOrreryBox$Mesh;)V"⟩) ∈ gw := gw_s 11 (by decide +kernel) rfl
theorem zs_XSight_161 : zwV "OrreryBox$Sight" 161 "OrreryBox$Sight" zy_XSight_cutFace zb_XSight_cutFace 4 none := ⟨zw_718, zw_720, zv_11, zw_10, zc_XSight_cutFace⟩
def L_XSight_nextFace_62 (sh : zSh) (fuel : Nat) (v0 : Nat) (v1 : Nat) (mm : zMem) : Option (Nat × Int32 × Nat × Nat × zMem) := match fuel with
  | 0 => none
  | fu + 1 => zoS (sh v0) 9 (fun le51 => zoS (sh v1) 2 (fun le53 => (if (mm.1 v1 2) ≤ (mm.1 v0 1) then some (1, (0 : Int32), v0, v1, mm) else zoS (sh v0) 9 (fun le56 => Option.bind (F_XSight_cutFace sh mm v0 v1) (fun p57 => zoS (sh v0) 9 (fun le59 => (if (p57.1 v0 3) < 3 then zoS (sh v0) 9 (fun le62 => zoL ((p57.1 v0 1) + 1) (fun x63 => zoS (sh v0) 9 (fun le65 => zoL (mI p57 v0 1 x63) (fun mm66 => L_XSight_nextFace_62 sh fu v0 v1 mm66)))) else some (0, 1, (0 : Nat), (0 : Nat), p57))))))))
set_option maxHeartbeats 4000000 in
set_option maxRecDepth 100000 in
theorem lp_XSight_nextFace_62 {p : Program} {l : Launch} {e : Env} {s : State} {m : MethodId} {args : Array Value} {below : List Frame} {meth : Method} {c : Code} {D : va_G} {tA : Nat → ClassId} {b n : Nat} {post : Option Value → zV → Nat → Prop} {sh : zSh} (F : zF p s m args meth c zb_XSight_nextFace 2 "OrreryBox$Sight" D tA b) (hr : meth.sig.returnType = (some .boolean)) : ∀ (fuel : Nat) (v0 : Nat) (v1 : Nat) (mm : zMem) (r : Nat × Int32 × Nat × Nat × zMem), L_XSight_nextFace_62 sh fuel v0 v1 mm = some r → (r.1 = 1 → Z p l e { frames := 4, cells := 0, slots := 0, locals := 113 } s m args below meth c D b 2 (MQ below (zQ D b post) args s 0 0 (fun q => b ≤ q)) (zW tA b sh r.2.2.2.2) n 0 0 101 [(0, .ref (b + (r.2.2.1))), (1, .ref (b + (r.2.2.2.1)))] []) → (r.1 = 0 → post (some (.int r.2.1)) (zW tA b sh r.2.2.2.2) n) → Z p l e { frames := 4, cells := 0, slots := 0, locals := 113 } s m args below meth c D b 2 (MQ below (zQ D b post) args s 0 0 (fun q => b ≤ q)) (zW tA b sh mm) n 0 0 62 [(0, .ref (b + v0)), (1, .ref (b + v1))] [] := by
  intro fuel
  induction fuel with
  | zero =>
    intro v0 v1 mm r h
    cases h
  | succ fu ih =>
    intro v0 v1 mm r h hx0 hp
    rw [L_XSight_nextFace_62] at h
    refine zr_aload_n F zd_XSight_nextFace_62 rfl ?_
    obtain ⟨le51, hs50, h⟩ := zoS_s h
    refine zr_get F 9 1 zd_XSight_nextFace_63 (zW_o hs50 (by decide)) rfl (by decide) zw_373 rfl (by rfl) ?_
    refine zr_pcn 66 rfl ?_
    refine zr_aload_n F zd_XSight_nextFace_66 rfl ?_
    obtain ⟨le53, hs52, h⟩ := zoS_s h
    refine zr_get F 2 2 zd_XSight_nextFace_67 (zW_o hs52 (by decide)) rfl (by decide) zw_181 rfl (by rfl) ?_
    refine zr_icmp_ge F 101 zd_XSight_nextFace_70 (by decide) (fun hb54 => ?_) (fun hb54 => ?_)
    ·
      replace h := (if_pos hb54).symm.trans h
      obtain rfl := Option.some.inj h
      refine zr_loc (L' := [(0, .ref (b + v0)), (1, .ref (b + v1))]) ⟨rfl, rfl, trivial⟩ ?_
      exact hx0 rfl
    ·
      replace h := (if_neg hb54).symm.trans h
      refine zr_aload_n F zd_XSight_nextFace_73 rfl ?_
      refine zr_aload_n F zd_XSight_nextFace_74 rfl ?_
      obtain ⟨le56, hs55, h⟩ := zoS_s h
      obtain ⟨p57, ep57, h⟩ := zoB_s h
      refine zr_callV0 F (k_XSight_cutFace l D tA b sh _ ep57) zd_XSight_nextFace_75 (zW_o hs55 (by decide)) rfl zs_XSight_161 rfl zq_XSight_cutFace rfl rfl ⟨(Nat.le_of_ble_eq_true rfl), (Nat.le_of_ble_eq_true rfl)⟩ (Nat.le_of_ble_eq_true rfl) ⟨(Nat.le_of_ble_eq_true rfl), (Nat.le_of_ble_eq_true rfl)⟩ ?_
      refine zr_aload_n F zd_XSight_nextFace_78 rfl ?_
      obtain ⟨le59, hs58, h⟩ := zoS_s h
      refine zr_get F 9 3 zd_XSight_nextFace_79 (zW_o hs58 (by decide)) rfl (by decide) zw_376 rfl (by rfl) ?_
      refine zr_pcn 82 rfl ?_
      refine zr_iconstv (v := 3) F zd_XSight_nextFace_82 (by decide) ?_
      refine zr_icmp_lt F 88 zd_XSight_nextFace_83 (by decide) (fun hb60 => ?_) (fun hb60 => ?_)
      ·
        replace h := (if_pos hb60).symm.trans h
        refine zr_aload_n F zd_XSight_nextFace_88 rfl ?_
        refine zr_dup F zd_XSight_nextFace_89 rfl ?_
        obtain ⟨le62, hs61, h⟩ := zoS_s h
        refine zr_get F 9 1 zd_XSight_nextFace_90 (zW_o hs61 (by decide)) rfl (by decide) zw_373 rfl (by rfl) ?_
        refine zr_iconstv (v := 1) F zd_XSight_nextFace_93 (by decide) ?_
        refine zr_iadd F zd_XSight_nextFace_94 ?_
        obtain ⟨x63, ex63, h⟩ := zoL_s h
        rw [← ex63]
        obtain ⟨le65, hs64, h⟩ := zoS_s h
        refine zr_put F 9 1 zd_XSight_nextFace_95 (zW_o hs64 (by decide)) rfl (by decide) zw_373 rfl rfl rfl rfl (by exact (Nat.le_of_ble_eq_true rfl)) ?_
        obtain ⟨mm66, emm66, h⟩ := zoL_s h
        refine zr_norm (zW tA b sh mm66) _ (by rw [emm66]; exact zW_pI (v := x63) hs64 (by decide) (zf_I_9_1 b _ _ _)) rfl ?_
        refine zr_pcn 98 rfl ?_
        refine zr_goto F 62 zd_XSight_nextFace_98 (by decide) ?_
        refine zr_loc (L' := [(0, .ref (b + v0)), (1, .ref (b + v1))]) ⟨rfl, rfl, trivial⟩ ?_
        exact ih _ _ _ _ h hx0 hp
      ·
        replace h := (if_neg hb60).symm.trans h
        refine zr_iconstv (v := 1) F zd_XSight_nextFace_86 (by decide) ?_
        obtain rfl := Option.some.inj h
        exact zr_zret F hr rfl zd_XSight_nextFace_87 (Nat.le_of_ble_eq_true rfl) (Nat.le_of_ble_eq_true rfl) (hp rfl)
theorem zw_706 : (Jvm.Cond.methodLink "OrreryBox$Sight" (154 : Nat) ({ cls := "OrreryBox$Sight", name := "standPoints", desc := "(LOrreryBox$Mesh;)V" } : Jvm.MethodName)) ∈ gw := gw_t 706 (by decide +kernel) rfl
theorem zw_708 : (Jvm.Cond.instanceMethod ({ cls := "OrreryBox$Sight", name := "standPoints", desc := "(LOrreryBox$Mesh;)V" } : Jvm.MethodName)) ∈ gw := gw_t 708 (by decide +kernel) rfl
theorem zv_9 : (Jvm.Cond.selects "OrreryBox$Sight" (⟨"OrreryBox$Sight", "standPoints", "(LOrreryBox$Mesh;)V"⟩ : MethodName) ⟨"OrreryBox$Sight", "standPoints", "(LOrreryBox$Mesh;)V"⟩) ∈ gw := gw_s 9 (by decide +kernel) rfl
theorem zs_XSight_154 : zwV "OrreryBox$Sight" 154 "OrreryBox$Sight" zy_XSight_standPoints zb_XSight_standPoints 9 none := ⟨zw_706, zw_708, zv_9, zw_10, zc_XSight_standPoints⟩
def L_XSight_nextFace_0 (sh : zSh) (fuel : Nat) (v0 : Nat) (mm : zMem) : Option (Nat × Int32 × Nat × zMem) := match fuel with
  | 0 => none
  | fu + 1 => zoS (sh v0) 9 (fun le2 => zoS (sh v0) 9 (fun le4 => (if (mm.1 v0 11) ≤ (mm.1 v0 12) then some (1, (0 : Int32), v0, mm) else zoS (sh v0) 9 (fun le7 => Option.bind (mm.2.2 v0 7) (fun a8 => zoS (sh a8) 8 (fun le10 => Option.bind (mm.2.2 a8 3) (fun a11 => zoS (sh v0) 9 (fun le13 => Option.bind (mm.2.2 v0 7) (fun a14 => zoS (sh a14) 8 (fun le16 => Option.bind (mm.2.2 a14 4) (fun a17 => zoS (sh v0) 9 (fun le19 => Option.bind (mm.2.2 v0 10) (fun a20 => zoS (sh v0) 9 (fun le22 => zoL (mm.1 v0 12) (fun i23 => zoS (sh a20) 100 (fun le25 => if (i23 : Int32) < 0 ∨ le25 ≤ (i23 : Int32).toNatClampNeg then none else zoL (mm.1 a20 (i23 : Int32).toNatClampNeg) (fun i27 => zoR (sh a17) (fun t31 le29 => if (i27 : Int32) < 0 ∨ le29 ≤ (i27 : Int32).toNatClampNeg then none else Option.bind (mm.2.2 a17 (i27 : Int32).toNatClampNeg) (fun a32 => zoS (sh a32) 3 (fun le34 => zoL (mm.1 a32 1) (fun i35 => zoR (sh a11) (fun t39 le37 => if (i35 : Int32) < 0 ∨ le37 ≤ (i35 : Int32).toNatClampNeg then none else Option.bind (mm.2.2 a11 (i35 : Int32).toNatClampNeg) (fun a40 => zoS (sh v0) 9 (fun le42 => (if 0 ≤ (mm.1 v0 1) then zoS (sh v0) 9 (fun le45 => zoL ((mm.1 v0 1) + 1) (fun x46 => zoS (sh v0) 9 (fun le48 => zoL (mI mm v0 1 x46) (fun mm49 => Option.bind (L_XSight_nextFace_62 sh zfuel v0 a40 mm49) (fun q67 => (if q67.1 = 1 then zoS (sh (q67.2.2.1)) 9 (fun le69 => zoL (mI (q67.2.2.2.2) (q67.2.2.1) 1 (-1)) (fun mm70 => zoS (sh (q67.2.2.1)) 9 (fun le72 => zoL ((mm70.1 (q67.2.2.1) 12) + 1) (fun x73 => zoS (sh (q67.2.2.1)) 9 (fun le75 => zoL (mI mm70 (q67.2.2.1) 12 x73) (fun mm76 => L_XSight_nextFace_0 sh fu (q67.2.2.1) mm76)))))) else some (0, q67.2.1, (0 : Nat), q67.2.2.2.2))))))) else zoS (sh v0) 9 (fun le78 => Option.bind (F_XSight_standPoints sh mm v0 a40) (fun p79 => zoS (sh v0) 9 (fun le81 => zoL ((p79.1 v0 1) + 1) (fun x82 => zoS (sh v0) 9 (fun le84 => zoL (mI p79 v0 1 x82) (fun mm85 => Option.bind (L_XSight_nextFace_62 sh zfuel v0 a40 mm85) (fun q86 => (if q86.1 = 1 then zoS (sh (q86.2.2.1)) 9 (fun le88 => zoL (mI (q86.2.2.2.2) (q86.2.2.1) 1 (-1)) (fun mm89 => zoS (sh (q86.2.2.1)) 9 (fun le91 => zoL ((mm89.1 (q86.2.2.1) 12) + 1) (fun x92 => zoS (sh (q86.2.2.1)) 9 (fun le94 => zoL (mI mm89 (q86.2.2.1) 12 x92) (fun mm95 => L_XSight_nextFace_0 sh fu (q86.2.2.1) mm95)))))) else some (0, q86.2.1, (0 : Nat), q86.2.2.2.2))))))))))))))))))))))))))))))))))
set_option maxHeartbeats 4000000 in
set_option maxRecDepth 100000 in
theorem lp_XSight_nextFace_0 {p : Program} {l : Launch} {e : Env} {s : State} {m : MethodId} {args : Array Value} {below : List Frame} {meth : Method} {c : Code} {D : va_G} {tA : Nat → ClassId} {b n : Nat} {post : Option Value → zV → Nat → Prop} {sh : zSh} (F : zF p s m args meth c zb_XSight_nextFace 2 "OrreryBox$Sight" D tA b) (hr : meth.sig.returnType = (some .boolean)) : ∀ (fuel : Nat) (v0 : Nat) (mm : zMem) (r : Nat × Int32 × Nat × zMem), L_XSight_nextFace_0 sh fuel v0 mm = some r → (r.1 = 1 → Z p l e { frames := 4, cells := 0, slots := 0, locals := 113 } s m args below meth c D b 2 (MQ below (zQ D b post) args s 0 0 (fun q => b ≤ q)) (zW tA b sh r.2.2.2) n 0 0 119 [(0, .ref (b + (r.2.2.1)))] []) → (r.1 = 0 → post (some (.int r.2.1)) (zW tA b sh r.2.2.2) n) → Z p l e { frames := 4, cells := 0, slots := 0, locals := 113 } s m args below meth c D b 2 (MQ below (zQ D b post) args s 0 0 (fun q => b ≤ q)) (zW tA b sh mm) n 0 0 0 [(0, .ref (b + v0))] [] := by
  intro fuel
  induction fuel with
  | zero =>
    intro v0 mm r h
    cases h
  | succ fu ih =>
    intro v0 mm r h hx0 hp
    rw [L_XSight_nextFace_0] at h
    refine zr_aload_n F zd_XSight_nextFace_0 rfl ?_
    obtain ⟨le2, hs1, h⟩ := zoS_s h
    refine zr_get F 9 12 zd_XSight_nextFace_1 (zW_o hs1 (by decide)) rfl (by decide) zw_385 rfl (by rfl) ?_
    refine zr_aload_n F zd_XSight_nextFace_4 rfl ?_
    obtain ⟨le4, hs3, h⟩ := zoS_s h
    refine zr_get F 9 11 zd_XSight_nextFace_5 (zW_o hs3 (by decide)) rfl (by decide) zw_384 rfl (by rfl) ?_
    refine zr_icmp_ge F 119 zd_XSight_nextFace_8 (by decide) (fun hb5 => ?_) (fun hb5 => ?_)
    ·
      replace h := (if_pos hb5).symm.trans h
      obtain rfl := Option.some.inj h
      refine zr_loc (L' := [(0, .ref (b + v0))]) ⟨rfl, trivial⟩ ?_
      exact hx0 rfl
    ·
      replace h := (if_neg hb5).symm.trans h
      refine zr_aload_n F zd_XSight_nextFace_11 rfl ?_
      obtain ⟨le7, hs6, h⟩ := zoS_s h
      obtain ⟨a8, ea8, h⟩ := zoB_s h
      refine zr_get F 9 7 zd_XSight_nextFace_12 (zW_o hs6 (by decide)) rfl (by decide) zw_380 rfl (by rfl) ?_
      refine zr_tor ea8 ?_
      refine zr_pcn 15 rfl ?_
      obtain ⟨le10, hs9, h⟩ := zoS_s h
      obtain ⟨a11, ea11, h⟩ := zoB_s h
      refine zr_get F 8 3 zd_XSight_nextFace_15 (zW_o hs9 (by decide)) rfl (by decide) zw_294 rfl (by rfl) ?_
      refine zr_tor ea11 ?_
      refine zr_aload_n F zd_XSight_nextFace_18 rfl ?_
      obtain ⟨le13, hs12, h⟩ := zoS_s h
      obtain ⟨a14, ea14, h⟩ := zoB_s h
      refine zr_get F 9 7 zd_XSight_nextFace_19 (zW_o hs12 (by decide)) rfl (by decide) zw_380 rfl (by rfl) ?_
      refine zr_tor ea14 ?_
      obtain ⟨le16, hs15, h⟩ := zoS_s h
      obtain ⟨a17, ea17, h⟩ := zoB_s h
      refine zr_get F 8 4 zd_XSight_nextFace_22 (zW_o hs15 (by decide)) rfl (by decide) zw_296 rfl (by rfl) ?_
      refine zr_tor ea17 ?_
      refine zr_aload_n F zd_XSight_nextFace_25 rfl ?_
      obtain ⟨le19, hs18, h⟩ := zoS_s h
      obtain ⟨a20, ea20, h⟩ := zoB_s h
      refine zr_get F 9 10 zd_XSight_nextFace_26 (zW_o hs18 (by decide)) rfl (by decide) zw_383 rfl (by rfl) ?_
      refine zr_tor ea20 ?_
      refine zr_aload_n F zd_XSight_nextFace_29 rfl ?_
      obtain ⟨le22, hs21, h⟩ := zoS_s h
      refine zr_get F 9 12 zd_XSight_nextFace_30 (zW_o hs21 (by decide)) rfl (by decide) zw_385 rfl (by rfl) ?_
      refine zr_pcn 33 rfl ?_
      obtain ⟨i23, ei23, h⟩ := zoL_s h
      rw [← ei23]
      obtain ⟨le25, hs24, h⟩ := zoS_s h
      obtain ⟨hi26, h⟩ := zoI_s h
      refine zr_iald F zd_XSight_nextFace_33 (zW_a0 hs24) hi26 ?_
      obtain ⟨i27, ei27, h⟩ := zoL_s h
      rw [← ei27]
      obtain ⟨t31, le29, hs28, h⟩ := zoR_s h
      obtain ⟨hi30, h⟩ := zoI_s h
      obtain ⟨a32, ea32, h⟩ := zoB_s h
      refine zr_aaldW F zd_XSight_nextFace_34 hs28 hi30 ea32 ?_
      obtain ⟨le34, hs33, h⟩ := zoS_s h
      refine zr_get F 3 1 zd_XSight_nextFace_35 (zW_o hs33 (by decide)) rfl (by decide) zw_217 rfl (by rfl) ?_
      obtain ⟨i35, ei35, h⟩ := zoL_s h
      rw [← ei35]
      obtain ⟨t39, le37, hs36, h⟩ := zoR_s h
      obtain ⟨hi38, h⟩ := zoI_s h
      obtain ⟨a40, ea40, h⟩ := zoB_s h
      refine zr_aaldW F zd_XSight_nextFace_38 hs36 hi38 ea40 ?_
      refine zr_astore_n F zd_XSight_nextFace_39 (by decide) ?_
      refine zr_aload_n F zd_XSight_nextFace_40 rfl ?_
      obtain ⟨le42, hs41, h⟩ := zoS_s h
      refine zr_get F 9 1 zd_XSight_nextFace_41 (zW_o hs41 (by decide)) rfl (by decide) zw_373 rfl (by rfl) ?_
      refine zr_if_ge F 52 zd_XSight_nextFace_44 (by decide) (fun hb43 => ?_) (fun hb43 => ?_)
      ·
        replace h := (if_pos hb43).symm.trans h
        refine zr_pcn 52 rfl ?_
        refine zr_aload_n F zd_XSight_nextFace_52 rfl ?_
        refine zr_dup F zd_XSight_nextFace_53 rfl ?_
        obtain ⟨le45, hs44, h⟩ := zoS_s h
        refine zr_get F 9 1 zd_XSight_nextFace_54 (zW_o hs44 (by decide)) rfl (by decide) zw_373 rfl (by rfl) ?_
        refine zr_iconstv (v := 1) F zd_XSight_nextFace_57 (by decide) ?_
        refine zr_iadd F zd_XSight_nextFace_58 ?_
        obtain ⟨x46, ex46, h⟩ := zoL_s h
        rw [← ex46]
        obtain ⟨le48, hs47, h⟩ := zoS_s h
        refine zr_put F 9 1 zd_XSight_nextFace_59 (zW_o hs47 (by decide)) rfl (by decide) zw_373 rfl rfl rfl rfl (by exact (Nat.le_of_ble_eq_true rfl)) ?_
        obtain ⟨mm49, emm49, h⟩ := zoL_s h
        refine zr_norm (zW tA b sh mm49) _ (by rw [emm49]; exact zW_pI (v := x46) hs47 (by decide) (zf_I_9_1 b _ _ _)) rfl ?_
        obtain ⟨q67, eq67, h⟩ := zoB_s h
        refine zr_loc (L' := [(0, .ref (b + v0)), (1, .ref (b + a40))]) ⟨rfl, rfl, trivial⟩ ?_
        refine lp_XSight_nextFace_62 F hr _ _ _ _ _ eq67 ?_ ?_
        ·
          intro ec
          rw [if_pos ec] at h
          refine zr_aload_n F zd_XSight_nextFace_101 rfl ?_
          refine zr_iconstv (v := (-1)) F zd_XSight_nextFace_102 (by decide) ?_
          obtain ⟨le69, hs68, h⟩ := zoS_s h
          refine zr_put F 9 1 zd_XSight_nextFace_103 (zW_o hs68 (by decide)) rfl (by decide) zw_373 rfl rfl rfl rfl (by exact (Nat.le_of_ble_eq_true rfl)) ?_
          obtain ⟨mm70, emm70, h⟩ := zoL_s h
          refine zr_norm (zW tA b sh mm70) _ (by rw [emm70]; exact zW_pI (v := (-1)) hs68 (by decide) (zf_I_9_1 b _ _ _)) rfl ?_
          refine zr_aload_n F zd_XSight_nextFace_106 rfl ?_
          refine zr_dup F zd_XSight_nextFace_107 rfl ?_
          refine zr_pcn 108 rfl ?_
          obtain ⟨le72, hs71, h⟩ := zoS_s h
          refine zr_get F 9 12 zd_XSight_nextFace_108 (zW_o hs71 (by decide)) rfl (by decide) zw_385 rfl (by rfl) ?_
          refine zr_iconstv (v := 1) F zd_XSight_nextFace_111 (by decide) ?_
          refine zr_iadd F zd_XSight_nextFace_112 ?_
          obtain ⟨x73, ex73, h⟩ := zoL_s h
          rw [← ex73]
          obtain ⟨le75, hs74, h⟩ := zoS_s h
          refine zr_put F 9 12 zd_XSight_nextFace_113 (zW_o hs74 (by decide)) rfl (by decide) zw_385 rfl rfl rfl rfl (by exact (Nat.le_of_ble_eq_true rfl)) ?_
          obtain ⟨mm76, emm76, h⟩ := zoL_s h
          refine zr_norm (zW tA b sh mm76) _ (by rw [emm76]; exact zW_pI (v := x73) hs74 (by decide) (zf_I_9_12 b _ _ _)) rfl ?_
          refine zr_goto F 0 zd_XSight_nextFace_116 (by decide) ?_
          refine zr_loc (L' := [(0, .ref (b + (q67.2.2.1)))]) ⟨rfl, trivial⟩ ?_
          exact ih _ _ _ h hx0 hp
        ·
          intro ec
          rw [if_neg (by rw [ec]; decide)] at h
          obtain rfl := Option.some.inj h
          exact hp rfl
      ·
        replace h := (if_neg hb43).symm.trans h
        refine zr_aload_n F zd_XSight_nextFace_47 rfl ?_
        refine zr_aload_n F zd_XSight_nextFace_48 rfl ?_
        obtain ⟨le78, hs77, h⟩ := zoS_s h
        obtain ⟨p79, ep79, h⟩ := zoB_s h
        refine zr_callV0 F (k_XSight_standPoints l D tA b sh _ ep79) zd_XSight_nextFace_49 (zW_o hs77 (by decide)) rfl zs_XSight_154 rfl zq_XSight_standPoints rfl rfl ⟨(Nat.le_of_ble_eq_true rfl), (Nat.le_of_ble_eq_true rfl)⟩ (Nat.le_of_ble_eq_true rfl) ⟨(Nat.le_of_ble_eq_true rfl), (Nat.le_of_ble_eq_true rfl)⟩ ?_
        refine zr_pcn 52 rfl ?_
        refine zr_aload_n F zd_XSight_nextFace_52 rfl ?_
        refine zr_dup F zd_XSight_nextFace_53 rfl ?_
        obtain ⟨le81, hs80, h⟩ := zoS_s h
        refine zr_get F 9 1 zd_XSight_nextFace_54 (zW_o hs80 (by decide)) rfl (by decide) zw_373 rfl (by rfl) ?_
        refine zr_iconstv (v := 1) F zd_XSight_nextFace_57 (by decide) ?_
        refine zr_iadd F zd_XSight_nextFace_58 ?_
        obtain ⟨x82, ex82, h⟩ := zoL_s h
        rw [← ex82]
        obtain ⟨le84, hs83, h⟩ := zoS_s h
        refine zr_put F 9 1 zd_XSight_nextFace_59 (zW_o hs83 (by decide)) rfl (by decide) zw_373 rfl rfl rfl rfl (by exact (Nat.le_of_ble_eq_true rfl)) ?_
        obtain ⟨mm85, emm85, h⟩ := zoL_s h
        refine zr_norm (zW tA b sh mm85) _ (by rw [emm85]; exact zW_pI (v := x82) hs83 (by decide) (zf_I_9_1 b _ _ _)) rfl ?_
        obtain ⟨q86, eq86, h⟩ := zoB_s h
        refine zr_loc (L' := [(0, .ref (b + v0)), (1, .ref (b + a40))]) ⟨rfl, rfl, trivial⟩ ?_
        refine lp_XSight_nextFace_62 F hr _ _ _ _ _ eq86 ?_ ?_
        ·
          intro ec
          rw [if_pos ec] at h
          refine zr_aload_n F zd_XSight_nextFace_101 rfl ?_
          refine zr_iconstv (v := (-1)) F zd_XSight_nextFace_102 (by decide) ?_
          refine zr_pcn 103 rfl ?_
          obtain ⟨le88, hs87, h⟩ := zoS_s h
          refine zr_put F 9 1 zd_XSight_nextFace_103 (zW_o hs87 (by decide)) rfl (by decide) zw_373 rfl rfl rfl rfl (by exact (Nat.le_of_ble_eq_true rfl)) ?_
          obtain ⟨mm89, emm89, h⟩ := zoL_s h
          refine zr_norm (zW tA b sh mm89) _ (by rw [emm89]; exact zW_pI (v := (-1)) hs87 (by decide) (zf_I_9_1 b _ _ _)) rfl ?_
          refine zr_aload_n F zd_XSight_nextFace_106 rfl ?_
          refine zr_dup F zd_XSight_nextFace_107 rfl ?_
          obtain ⟨le91, hs90, h⟩ := zoS_s h
          refine zr_get F 9 12 zd_XSight_nextFace_108 (zW_o hs90 (by decide)) rfl (by decide) zw_385 rfl (by rfl) ?_
          refine zr_iconstv (v := 1) F zd_XSight_nextFace_111 (by decide) ?_
          refine zr_iadd F zd_XSight_nextFace_112 ?_
          obtain ⟨x92, ex92, h⟩ := zoL_s h
          rw [← ex92]
          obtain ⟨le94, hs93, h⟩ := zoS_s h
          refine zr_put F 9 12 zd_XSight_nextFace_113 (zW_o hs93 (by decide)) rfl (by decide) zw_385 rfl rfl rfl rfl (by exact (Nat.le_of_ble_eq_true rfl)) ?_
          obtain ⟨mm95, emm95, h⟩ := zoL_s h
          refine zr_norm (zW tA b sh mm95) _ (by rw [emm95]; exact zW_pI (v := x92) hs93 (by decide) (zf_I_9_12 b _ _ _)) rfl ?_
          refine zr_goto F 0 zd_XSight_nextFace_116 (by decide) ?_
          refine zr_loc (L' := [(0, .ref (b + (q86.2.2.1)))]) ⟨rfl, trivial⟩ ?_
          exact ih _ _ _ h hx0 hp
        ·
          intro ec
          rw [if_neg (by rw [ec]; decide)] at h
          obtain rfl := Option.some.inj h
          exact hp rfl
def F_XSight_nextFace (sh : zSh) (mm : zMem) (o : Nat) : Option (Int32 × zMem) := Option.bind (L_XSight_nextFace_0 sh zfuel o mm) (fun q96 => (if q96.1 = 1 then some (0, q96.2.2.2) else some (q96.2.1, q96.2.2.2)))
set_option maxHeartbeats 4000000 in
set_option maxRecDepth 100000 in
theorem k_XSight_nextFace (l : Launch) (D : va_G) (tA : Nat → ClassId) (b : Nat) (sh : zSh) (n : Nat) {mm : zMem} {o : Nat} {r : (Int32 × zMem)} (h : F_XSight_nextFace sh mm o = some r) : zM l D tA b zy_XSight_nextFace zb_XSight_nextFace 2 (some .boolean) 4 113 0 0 [.ref (b + o)] (zW tA b sh mm) n (zE (some (.int (r.1))) (zW tA b sh r.2) n) := by
  unfold F_XSight_nextFace at h
  refine zM_of (own := "OrreryBox$Sight") (plainFor_of_name (by decide)) rfl (Nat.le_of_ble_eq_true rfl) (fun p e s m below meth c F hr hin hH => ?_)
  obtain ⟨q96, eq96, h⟩ := zoB_s h
  refine zr_loc (L' := [(0, .ref (b + o))]) ⟨rfl, trivial⟩ ?_
  refine lp_XSight_nextFace_0 F hr _ _ _ _ eq96 ?_ ?_
  ·
    intro ec
    rw [if_pos ec] at h
    refine zr_pcn 119 rfl ?_
    refine zr_iconstv (v := 0) F zd_XSight_nextFace_119 (by decide) ?_
    obtain rfl := Option.some.inj h
    exact zr_zret F hr rfl zd_XSight_nextFace_120 (Nat.le_of_ble_eq_true rfl) (Nat.le_of_ble_eq_true rfl) ⟨rfl, rfl, rfl⟩
  ·
    intro ec
    rw [if_neg (by rw [ec]; decide)] at h
    obtain rfl := Option.some.inj h
    exact ⟨rfl, rfl, rfl⟩
abbrev zb_XTexture_colourAt : ByteArray := prog_11_method_6_code
def zy_XTexture_colourAt : MethodName := ⟨"OrreryBox$Texture", "colourAt", "(IJJ)I"⟩
theorem zc_XTexture_colourAt : Cond.code zy_XTexture_colourAt zb_XTexture_colourAt 8 (some .int) ∈ gw := gw_t 842 (by decide +kernel) rfl
theorem zq_XTexture_colourAt : zy_XTexture_colourAt.cls ≠ "java/lang/invoke/MethodHandle" ∧ zy_XTexture_colourAt.cls ≠ "java/lang/invoke/VarHandle" ∧ (parseMethodDescriptor zy_XTexture_colourAt.desc).map (fun d => d.parameters.length) = some 3 := by decide +kernel
theorem zd_XTexture_colourAt_0 : decode zb_XTexture_colourAt 0 = .ok (.aload_n 0, 1) := by decide +kernel
theorem zd_XTexture_colourAt_1 : decode zb_XTexture_colourAt 1 = .ok (.getfield 16, 3) := by decide +kernel
theorem zd_XTexture_colourAt_4 : decode zb_XTexture_colourAt 4 = .ok (.iload_n 1, 1) := by decide +kernel
theorem zd_XTexture_colourAt_5 : decode zb_XTexture_colourAt 5 = .ok (.ishr, 1) := by decide +kernel
theorem zd_XTexture_colourAt_6 : decode zb_XTexture_colourAt 6 = .ok (.istore 6, 2) := by decide +kernel
theorem zd_XTexture_colourAt_8 : decode zb_XTexture_colourAt 8 = .ok (.aload_n 0, 1) := by decide +kernel
theorem zd_XTexture_colourAt_9 : decode zb_XTexture_colourAt 9 = .ok (.getfield 13, 3) := by decide +kernel
theorem zd_XTexture_colourAt_12 : decode zb_XTexture_colourAt 12 = .ok (.iload_n 1, 1) := by decide +kernel
theorem zd_XTexture_colourAt_13 : decode zb_XTexture_colourAt 13 = .ok (.iaload, 1) := by decide +kernel
theorem zd_XTexture_colourAt_14 : decode zb_XTexture_colourAt 14 = .ok (.istore 7, 2) := by decide +kernel
theorem zd_XTexture_colourAt_16 : decode zb_XTexture_colourAt 16 = .ok (.aload_n 0, 1) := by decide +kernel
theorem zd_XTexture_colourAt_17 : decode zb_XTexture_colourAt 17 = .ok (.getfield 35, 3) := by decide +kernel
theorem zd_XTexture_colourAt_20 : decode zb_XTexture_colourAt 20 = .ok (.ifCond .eq 33, 3) := by decide +kernel
theorem zd_XTexture_colourAt_23 : decode zb_XTexture_colourAt 23 = .ok (.aload_n 0, 1) := by decide +kernel
theorem zd_XTexture_colourAt_24 : decode zb_XTexture_colourAt 24 = .ok (.iload 7, 2) := by decide +kernel
theorem zd_XTexture_colourAt_26 : decode zb_XTexture_colourAt 26 = .ok (.iload 6, 2) := by decide +kernel
theorem zd_XTexture_colourAt_28 : decode zb_XTexture_colourAt 28 = .ok (.lload_n 2, 1) := by decide +kernel
theorem zd_XTexture_colourAt_29 : decode zb_XTexture_colourAt 29 = .ok (.iload 6, 2) := by decide +kernel
theorem zd_XTexture_colourAt_31 : decode zb_XTexture_colourAt 31 = .ok (.i2l, 1) := by decide +kernel
theorem zd_XTexture_colourAt_32 : decode zb_XTexture_colourAt 32 = .ok (.lmul, 1) := by decide +kernel
theorem zd_XTexture_colourAt_33 : decode zb_XTexture_colourAt 33 = .ok (.ldc2_w 39, 3) := by decide +kernel
theorem zd_XTexture_colourAt_36 : decode zb_XTexture_colourAt 36 = .ok (.lsub, 1) := by decide +kernel
theorem zd_XTexture_colourAt_37 : decode zb_XTexture_colourAt 37 = .ok (.lload 4, 2) := by decide +kernel
theorem zd_XTexture_colourAt_39 : decode zb_XTexture_colourAt 39 = .ok (.iload 6, 2) := by decide +kernel
theorem zd_XTexture_colourAt_41 : decode zb_XTexture_colourAt 41 = .ok (.i2l, 1) := by decide +kernel
theorem zd_XTexture_colourAt_42 : decode zb_XTexture_colourAt 42 = .ok (.lmul, 1) := by decide +kernel
theorem zd_XTexture_colourAt_43 : decode zb_XTexture_colourAt 43 = .ok (.ldc2_w 39, 3) := by decide +kernel
theorem zd_XTexture_colourAt_46 : decode zb_XTexture_colourAt 46 = .ok (.lsub, 1) := by decide +kernel
theorem zd_XTexture_colourAt_47 : decode zb_XTexture_colourAt 47 = .ok (.invokevirtual 41, 3) := by decide +kernel
theorem zd_XTexture_colourAt_50 : decode zb_XTexture_colourAt 50 = .ok (.goto 28, 3) := by decide +kernel
theorem zd_XTexture_colourAt_53 : decode zb_XTexture_colourAt 53 = .ok (.aload_n 0, 1) := by decide +kernel
theorem zd_XTexture_colourAt_54 : decode zb_XTexture_colourAt 54 = .ok (.iload 7, 2) := by decide +kernel
theorem zd_XTexture_colourAt_56 : decode zb_XTexture_colourAt 56 = .ok (.iload 6, 2) := by decide +kernel
theorem zd_XTexture_colourAt_58 : decode zb_XTexture_colourAt 58 = .ok (.lload_n 2, 1) := by decide +kernel
theorem zd_XTexture_colourAt_59 : decode zb_XTexture_colourAt 59 = .ok (.iload 6, 2) := by decide +kernel
theorem zd_XTexture_colourAt_61 : decode zb_XTexture_colourAt 61 = .ok (.i2l, 1) := by decide +kernel
theorem zd_XTexture_colourAt_62 : decode zb_XTexture_colourAt 62 = .ok (.lmul, 1) := by decide +kernel
theorem zd_XTexture_colourAt_63 : decode zb_XTexture_colourAt 63 = .ok (.bipush 16, 2) := by decide +kernel
theorem zd_XTexture_colourAt_65 : decode zb_XTexture_colourAt 65 = .ok (.lshr, 1) := by decide +kernel
theorem zd_XTexture_colourAt_66 : decode zb_XTexture_colourAt 66 = .ok (.lload 4, 2) := by decide +kernel
theorem zd_XTexture_colourAt_68 : decode zb_XTexture_colourAt 68 = .ok (.iload 6, 2) := by decide +kernel
theorem zd_XTexture_colourAt_70 : decode zb_XTexture_colourAt 70 = .ok (.i2l, 1) := by decide +kernel
theorem zd_XTexture_colourAt_71 : decode zb_XTexture_colourAt 71 = .ok (.lmul, 1) := by decide +kernel
theorem zd_XTexture_colourAt_72 : decode zb_XTexture_colourAt 72 = .ok (.bipush 16, 2) := by decide +kernel
theorem zd_XTexture_colourAt_74 : decode zb_XTexture_colourAt 74 = .ok (.lshr, 1) := by decide +kernel
theorem zd_XTexture_colourAt_75 : decode zb_XTexture_colourAt 75 = .ok (.invokevirtual 45, 3) := by decide +kernel
theorem zd_XTexture_colourAt_78 : decode zb_XTexture_colourAt 78 = .ok (.ireturn, 1) := by decide +kernel
theorem zw_153 : (Jvm.Cond.fieldLink "OrreryBox$Texture" (35 : Nat) "OrreryBox$Texture" "soft" "Z") ∈ gw := gw_t 153 (by decide +kernel) rfl
theorem zw_843 : (Jvm.Cond.constantLong "OrreryBox$Texture" (39 : Nat) (32768 : Int64)) ∈ gw := gw_t 843 (by decide +kernel) rfl
theorem zw_844 : (Jvm.Cond.methodLink "OrreryBox$Texture" (41 : Nat) ({ cls := "OrreryBox$Texture", name := "softAt", desc := "(IIJJ)I" } : Jvm.MethodName)) ∈ gw := gw_t 844 (by decide +kernel) rfl
theorem zw_846 : (Jvm.Cond.instanceMethod ({ cls := "OrreryBox$Texture", name := "softAt", desc := "(IIJJ)I" } : Jvm.MethodName)) ∈ gw := gw_t 846 (by decide +kernel) rfl
theorem zv_21 : (Jvm.Cond.selects "OrreryBox$Texture" (⟨"OrreryBox$Texture", "softAt", "(IIJJ)I"⟩ : MethodName) ⟨"OrreryBox$Texture", "softAt", "(IIJJ)I"⟩) ∈ gw := gw_s 21 (by decide +kernel) rfl
theorem zs_XTexture_41 : zwV "OrreryBox$Texture" 41 "OrreryBox$Texture" zy_XTexture_softAt zb_XTexture_softAt 21 (some .int) := ⟨zw_844, zw_846, zv_21, zw_6, zc_XTexture_softAt⟩
def F_XTexture_colourAt (sh : zSh) (mm : zMem) (o : Nat) (x0_ : Int32) (x1_ : Int64) (x2_ : Int64) : Option (Int32 × zMem) := zoS (sh o) 10 (fun le2 => zoL ((mm.1 o 0) >>> (x0_ &&& 31)) (fun x3 => zoS (sh o) 10 (fun le5 => Option.bind (mm.2.2 o 5) (fun a6 => zoS (sh a6) 100 (fun le8 => if (x0_ : Int32) < 0 ∨ le8 ≤ (x0_ : Int32).toNatClampNeg then none else zoL (mm.1 a6 (x0_ : Int32).toNatClampNeg) (fun x10 => zoS (sh o) 10 (fun le12 => (if (mm.1 o 2) = 0 then zoS (sh o) 10 (fun le15 => zoL ((x1_ * ((x3 : Int32).toInt64)) >>> ((16 : Int32).toInt64 &&& 63)) (fun x16 => zoL ((x2_ * ((x3 : Int32).toInt64)) >>> ((16 : Int32).toInt64 &&& 63)) (fun x17 => Option.bind (F_XTexture_texel sh mm o x10 x3 x16 x17) (fun p18 => some (p18.1, p18.2))))) else zoS (sh o) 10 (fun le20 => zoL ((x1_ * ((x3 : Int32).toInt64)) - 32768) (fun x21 => zoL ((x2_ * ((x3 : Int32).toInt64)) - 32768) (fun x22 => Option.bind (F_XTexture_softAt sh mm o x10 x3 x21 x22) (fun p23 => some (p23.1, p23.2)))))))))))))
set_option maxHeartbeats 4000000 in
set_option maxRecDepth 100000 in
theorem k_XTexture_colourAt (l : Launch) (D : va_G) (tA : Nat → ClassId) (b : Nat) (sh : zSh) (n : Nat) {mm : zMem} {o : Nat} {x0_ : Int32} {x1_ : Int64} {x2_ : Int64} {r : (Int32 × zMem)} (h : F_XTexture_colourAt sh mm o x0_ x1_ x2_ = some r) : zM l D tA b zy_XTexture_colourAt zb_XTexture_colourAt 8 (some .int) 3 89 0 0 [.ref (b + o), .int x0_, .long x1_, .long x2_] (zW tA b sh mm) n (zE (some (.int (r.1))) (zW tA b sh r.2) n) := by
  unfold F_XTexture_colourAt at h
  refine zM_of (own := "OrreryBox$Texture") (plainFor_of_name (by decide)) rfl (Nat.le_of_ble_eq_true rfl) (fun p e s m below meth c F hr hin hH => ?_)
  refine zr_aload_n F zd_XTexture_colourAt_0 rfl ?_
  obtain ⟨le2, hs1, h⟩ := zoS_s h
  refine zr_get F 10 0 zd_XTexture_colourAt_1 (zW_o hs1 (by decide)) rfl (by decide) zw_148 rfl (by rfl) ?_
  refine zr_iload_n F zd_XTexture_colourAt_4 rfl ?_
  refine zr_ishr F zd_XTexture_colourAt_5 ?_
  obtain ⟨x3, ex3, h⟩ := zoL_s h
  rw [← ex3]
  refine zr_istore F zd_XTexture_colourAt_6 (by decide) ?_
  refine zr_aload_n F zd_XTexture_colourAt_8 rfl ?_
  obtain ⟨le5, hs4, h⟩ := zoS_s h
  obtain ⟨a6, ea6, h⟩ := zoB_s h
  refine zr_get F 10 5 zd_XTexture_colourAt_9 (zW_o hs4 (by decide)) rfl (by decide) zw_156 rfl (by rfl) ?_
  refine zr_tor ea6 ?_
  refine zr_pcn 12 rfl ?_
  refine zr_iload_n F zd_XTexture_colourAt_12 rfl ?_
  obtain ⟨le8, hs7, h⟩ := zoS_s h
  obtain ⟨hi9, h⟩ := zoI_s h
  refine zr_iald F zd_XTexture_colourAt_13 (zW_a0 hs7) hi9 ?_
  obtain ⟨x10, ex10, h⟩ := zoL_s h
  rw [← ex10]
  refine zr_istore F zd_XTexture_colourAt_14 (by decide) ?_
  refine zr_aload_n F zd_XTexture_colourAt_16 rfl ?_
  obtain ⟨le12, hs11, h⟩ := zoS_s h
  refine zr_get F 10 2 zd_XTexture_colourAt_17 (zW_o hs11 (by decide)) rfl (by decide) zw_153 rfl (by rfl) ?_
  refine zr_if_eq F 53 zd_XTexture_colourAt_20 (by decide) (fun hb13 => ?_) (fun hb13 => ?_)
  ·
    replace h := (if_pos hb13).symm.trans h
    refine zr_aload_n F zd_XTexture_colourAt_53 rfl ?_
    refine zr_iload F zd_XTexture_colourAt_54 rfl ?_
    refine zr_pcn 56 rfl ?_
    refine zr_iload F zd_XTexture_colourAt_56 rfl ?_
    refine zr_lload_n F zd_XTexture_colourAt_58 rfl ?_
    refine zr_iload F zd_XTexture_colourAt_59 rfl ?_
    refine zr_i2l F zd_XTexture_colourAt_61 ?_
    refine zr_lmul F zd_XTexture_colourAt_62 ?_
    refine zr_bipushv (v := 16) F zd_XTexture_colourAt_63 (by decide) ?_
    refine zr_lshr F zd_XTexture_colourAt_65 ?_
    refine zr_lload F zd_XTexture_colourAt_66 rfl ?_
    refine zr_pcn 68 rfl ?_
    refine zr_iload F zd_XTexture_colourAt_68 rfl ?_
    refine zr_i2l F zd_XTexture_colourAt_70 ?_
    refine zr_lmul F zd_XTexture_colourAt_71 ?_
    refine zr_bipushv (v := 16) F zd_XTexture_colourAt_72 (by decide) ?_
    refine zr_lshr F zd_XTexture_colourAt_74 ?_
    obtain ⟨le15, hs14, h⟩ := zoS_s h
    obtain ⟨x16, ex16, h⟩ := zoL_s h
    rw [← ex16]
    obtain ⟨x17, ex17, h⟩ := zoL_s h
    rw [← ex17]
    obtain ⟨p18, ep18, h⟩ := zoB_s h
    refine zr_callV1 F (k_XTexture_texel l D tA b sh _ ep18) zd_XTexture_colourAt_75 (zW_o hs14 (by decide)) rfl zs_XTexture_45 rfl zq_XTexture_texel rfl rfl ⟨(Nat.le_of_ble_eq_true rfl), (Nat.le_of_ble_eq_true rfl)⟩ (Nat.le_of_ble_eq_true rfl) ⟨(Nat.le_of_ble_eq_true rfl), (Nat.le_of_ble_eq_true rfl)⟩ ?_
    obtain rfl := Option.some.inj h
    exact zr_iret F hr zd_XTexture_colourAt_78 (Nat.le_of_ble_eq_true rfl) (Nat.le_of_ble_eq_true rfl) ⟨rfl, rfl, rfl⟩
  ·
    replace h := (if_neg hb13).symm.trans h
    refine zr_aload_n F zd_XTexture_colourAt_23 rfl ?_
    refine zr_pcn 24 rfl ?_
    refine zr_iload F zd_XTexture_colourAt_24 rfl ?_
    refine zr_iload F zd_XTexture_colourAt_26 rfl ?_
    refine zr_lload_n F zd_XTexture_colourAt_28 rfl ?_
    refine zr_iload F zd_XTexture_colourAt_29 rfl ?_
    refine zr_i2l F zd_XTexture_colourAt_31 ?_
    refine zr_lmul F zd_XTexture_colourAt_32 ?_
    refine zr_ldc2 F zd_XTexture_colourAt_33 zw_843 ?_
    refine zr_lsub F zd_XTexture_colourAt_36 ?_
    refine zr_pcn 37 rfl ?_
    refine zr_lload F zd_XTexture_colourAt_37 rfl ?_
    refine zr_iload F zd_XTexture_colourAt_39 rfl ?_
    refine zr_i2l F zd_XTexture_colourAt_41 ?_
    refine zr_lmul F zd_XTexture_colourAt_42 ?_
    refine zr_ldc2 F zd_XTexture_colourAt_43 zw_843 ?_
    refine zr_lsub F zd_XTexture_colourAt_46 ?_
    obtain ⟨le20, hs19, h⟩ := zoS_s h
    obtain ⟨x21, ex21, h⟩ := zoL_s h
    rw [← ex21]
    obtain ⟨x22, ex22, h⟩ := zoL_s h
    rw [← ex22]
    obtain ⟨p23, ep23, h⟩ := zoB_s h
    refine zr_callV1 F (k_XTexture_softAt l D tA b sh _ ep23) zd_XTexture_colourAt_47 (zW_o hs19 (by decide)) rfl zs_XTexture_41 rfl zq_XTexture_softAt rfl rfl ⟨(Nat.le_of_ble_eq_true rfl), (Nat.le_of_ble_eq_true rfl)⟩ (Nat.le_of_ble_eq_true rfl) ⟨(Nat.le_of_ble_eq_true rfl), (Nat.le_of_ble_eq_true rfl)⟩ ?_
    refine zr_goto F 78 zd_XTexture_colourAt_50 (by decide) ?_
    refine zr_pcn 78 rfl ?_
    obtain rfl := Option.some.inj h
    exact zr_iret F hr zd_XTexture_colourAt_78 (Nat.le_of_ble_eq_true rfl) (Nat.le_of_ble_eq_true rfl) ⟨rfl, rfl, rfl⟩
